section
-- ===== PART A: goes FIRST, ahead of the names: the tables' words, and 'selects' of the private methods out of them =====
/-- a private method of a class that the tables say can be made, by its rows of tables_1 -/
def lw_okq (q : MethodName × Nat) : Prop := (q.1.cls ≠ "java/lang/invoke/MethodHandle" ∧ q.1.cls ≠ "java/lang/invoke/VarHandle") ∧ Cond.instantiable q.1.cls q.2 ∈ tables_1 ∧ Cond.privateMethod q.1 ∈ tables_1 ∧ Cond.instanceMethod q.1 ∈ tables_1
theorem lw_p0 : lw_okq (⟨"FlashStore", "take", "(III)V"⟩, 6) := ⟨⟨by decide +kernel, by decide +kernel⟩, List.mem_of_getElem? (i := 15) (by decide +kernel), List.mem_of_getElem? (i := 108) (by decide +kernel), List.mem_of_getElem? (i := 109) (by decide +kernel)⟩
theorem lw_p1 : lw_okq (⟨"FlashStore", "forget", "(I)V"⟩, 6) := ⟨⟨by decide +kernel, by decide +kernel⟩, List.mem_of_getElem? (i := 15) (by decide +kernel), List.mem_of_getElem? (i := 118) (by decide +kernel), List.mem_of_getElem? (i := 119) (by decide +kernel)⟩
theorem lw_p2 : lw_okq (⟨"FlashStore", "hold", "(II)V"⟩, 6) := ⟨⟨by decide +kernel, by decide +kernel⟩, List.mem_of_getElem? (i := 15) (by decide +kernel), List.mem_of_getElem? (i := 122) (by decide +kernel), List.mem_of_getElem? (i := 123) (by decide +kernel)⟩
theorem lw_p3 : lw_okq (⟨"FlashStore", "countHeld", "()I"⟩, 6) := ⟨⟨by decide +kernel, by decide +kernel⟩, List.mem_of_getElem? (i := 15) (by decide +kernel), List.mem_of_getElem? (i := 129) (by decide +kernel), List.mem_of_getElem? (i := 130) (by decide +kernel)⟩
theorem lw_p4 : lw_okq (⟨"java/lang/Throwable", "fillInStackTrace", "(I)Ljava/lang/Throwable;"⟩, 6) := ⟨⟨by decide +kernel, by decide +kernel⟩, List.mem_of_getElem? (i := 183) (by decide +kernel), List.mem_of_getElem? (i := 181) (by decide +kernel), List.mem_of_getElem? (i := 182) (by decide +kernel)⟩
theorem lw_p5 : lw_okq (⟨"FlashStore", "leavesBlockFree", "()Z"⟩, 6) := ⟨⟨by decide +kernel, by decide +kernel⟩, List.mem_of_getElem? (i := 15) (by decide +kernel), List.mem_of_getElem? (i := 256) (by decide +kernel), List.mem_of_getElem? (i := 257) (by decide +kernel)⟩
theorem lw_p6 : lw_okq (⟨"FlashStore", "freePlace", "(I)I"⟩, 6) := ⟨⟨by decide +kernel, by decide +kernel⟩, List.mem_of_getElem? (i := 15) (by decide +kernel), List.mem_of_getElem? (i := 260) (by decide +kernel), List.mem_of_getElem? (i := 261) (by decide +kernel)⟩
theorem lw_p7 : lw_okq (⟨"FlashStore", "isWholeFree", "(I)Z"⟩, 6) := ⟨⟨by decide +kernel, by decide +kernel⟩, List.mem_of_getElem? (i := 15) (by decide +kernel), List.mem_of_getElem? (i := 267) (by decide +kernel), List.mem_of_getElem? (i := 268) (by decide +kernel)⟩
theorem lw_p8 : lw_okq (⟨"FlashStore", "countInBlock", "(II)I"⟩, 6) := ⟨⟨by decide +kernel, by decide +kernel⟩, List.mem_of_getElem? (i := 15) (by decide +kernel), List.mem_of_getElem? (i := 271) (by decide +kernel), List.mem_of_getElem? (i := 272) (by decide +kernel)⟩
theorem lw_p9 : lw_okq (⟨"FlashStore", "blockToClean", "()I"⟩, 6) := ⟨⟨by decide +kernel, by decide +kernel⟩, List.mem_of_getElem? (i := 15) (by decide +kernel), List.mem_of_getElem? (i := 278) (by decide +kernel), List.mem_of_getElem? (i := 279) (by decide +kernel)⟩
theorem lw_p10 : lw_okq (⟨"FlashStore", "canBeCleaned", "(I)Z"⟩, 6) := ⟨⟨by decide +kernel, by decide +kernel⟩, List.mem_of_getElem? (i := 15) (by decide +kernel), List.mem_of_getElem? (i := 282) (by decide +kernel), List.mem_of_getElem? (i := 283) (by decide +kernel)⟩
theorem lw_p11 : lw_okq (⟨"FlashStore", "countFreeOutside", "(I)I"⟩, 6) := ⟨⟨by decide +kernel, by decide +kernel⟩, List.mem_of_getElem? (i := 15) (by decide +kernel), List.mem_of_getElem? (i := 286) (by decide +kernel), List.mem_of_getElem? (i := 287) (by decide +kernel)⟩
theorem lw_p12 : lw_okq (⟨"FlashStore", "isBetterToClean", "(II)Z"⟩, 6) := ⟨⟨by decide +kernel, by decide +kernel⟩, List.mem_of_getElem? (i := 15) (by decide +kernel), List.mem_of_getElem? (i := 290) (by decide +kernel), List.mem_of_getElem? (i := 291) (by decide +kernel)⟩
theorem lw_p13 : lw_okq (⟨"FlashStore", "cleanBlock", "(I)V"⟩, 6) := ⟨⟨by decide +kernel, by decide +kernel⟩, List.mem_of_getElem? (i := 15) (by decide +kernel), List.mem_of_getElem? (i := 314) (by decide +kernel), List.mem_of_getElem? (i := 315) (by decide +kernel)⟩
theorem lw_p14 : lw_okq (⟨"FlashStore", "moveAway", "(I)V"⟩, 6) := ⟨⟨by decide +kernel, by decide +kernel⟩, List.mem_of_getElem? (i := 15) (by decide +kernel), List.mem_of_getElem? (i := 318) (by decide +kernel), List.mem_of_getElem? (i := 319) (by decide +kernel)⟩
theorem lw_p15 : lw_okq (⟨"FlashStore", "logicalPageAt", "(I)I"⟩, 6) := ⟨⟨by decide +kernel, by decide +kernel⟩, List.mem_of_getElem? (i := 15) (by decide +kernel), List.mem_of_getElem? (i := 322) (by decide +kernel), List.mem_of_getElem? (i := 323) (by decide +kernel)⟩
def lw_privs_1 : List (MethodName × Nat) := [(⟨"FlashStore", "take", "(III)V"⟩, 6), (⟨"FlashStore", "forget", "(I)V"⟩, 6), (⟨"FlashStore", "hold", "(II)V"⟩, 6), (⟨"FlashStore", "countHeld", "()I"⟩, 6), (⟨"java/lang/Throwable", "fillInStackTrace", "(I)Ljava/lang/Throwable;"⟩, 6), (⟨"FlashStore", "leavesBlockFree", "()Z"⟩, 6), (⟨"FlashStore", "freePlace", "(I)I"⟩, 6), (⟨"FlashStore", "isWholeFree", "(I)Z"⟩, 6), (⟨"FlashStore", "countInBlock", "(II)I"⟩, 6), (⟨"FlashStore", "blockToClean", "()I"⟩, 6), (⟨"FlashStore", "canBeCleaned", "(I)Z"⟩, 6), (⟨"FlashStore", "countFreeOutside", "(I)I"⟩, 6), (⟨"FlashStore", "isBetterToClean", "(II)Z"⟩, 6), (⟨"FlashStore", "cleanBlock", "(I)V"⟩, 6), (⟨"FlashStore", "moveAway", "(I)V"⟩, 6), (⟨"FlashStore", "logicalPageAt", "(I)I"⟩, 6)]
theorem lw_r1 : ∀ q ∈ lw_privs_1, lw_okq q := List.forall_mem_cons.mpr ⟨lw_p0, List.forall_mem_cons.mpr ⟨lw_p1, List.forall_mem_cons.mpr ⟨lw_p2, List.forall_mem_cons.mpr ⟨lw_p3, List.forall_mem_cons.mpr ⟨lw_p4, List.forall_mem_cons.mpr ⟨lw_p5, List.forall_mem_cons.mpr ⟨lw_p6, List.forall_mem_cons.mpr ⟨lw_p7, List.forall_mem_cons.mpr ⟨lw_p8, List.forall_mem_cons.mpr ⟨lw_p9, List.forall_mem_cons.mpr ⟨lw_p10, List.forall_mem_cons.mpr ⟨lw_p11, List.forall_mem_cons.mpr ⟨lw_p12, List.forall_mem_cons.mpr ⟨lw_p13, List.forall_mem_cons.mpr ⟨lw_p14, List.forall_mem_cons.mpr ⟨lw_p15, fun _ h => absurd h List.not_mem_nil⟩⟩⟩⟩⟩⟩⟩⟩⟩⟩⟩⟩⟩⟩⟩⟩
theorem lw_p16 : lw_okq (⟨"FlashStore", "put", "(IJI)V"⟩, 6) := ⟨⟨by decide +kernel, by decide +kernel⟩, List.mem_of_getElem? (i := 15) (by decide +kernel), List.mem_of_getElem? (i := 334) (by decide +kernel), List.mem_of_getElem? (i := 335) (by decide +kernel)⟩
theorem lw_p17 : lw_okq (⟨"FlashStoreModel", "fail", "(I)I"⟩, 11) := ⟨⟨by decide +kernel, by decide +kernel⟩, List.mem_of_getElem? (i := 425) (by decide +kernel), List.mem_of_getElem? (i := 479) (by decide +kernel), List.mem_of_getElem? (i := 480) (by decide +kernel)⟩
theorem lw_p18 : lw_okq (⟨"FlashStoreModel", "codeword", "(I)I"⟩, 11) := ⟨⟨by decide +kernel, by decide +kernel⟩, List.mem_of_getElem? (i := 425) (by decide +kernel), List.mem_of_getElem? (i := 483) (by decide +kernel), List.mem_of_getElem? (i := 484) (by decide +kernel)⟩
theorem lw_p19 : lw_okq (⟨"FlashStoreModel", "left", "(I)I"⟩, 11) := ⟨⟨by decide +kernel, by decide +kernel⟩, List.mem_of_getElem? (i := 425) (by decide +kernel), List.mem_of_getElem? (i := 488) (by decide +kernel), List.mem_of_getElem? (i := 489) (by decide +kernel)⟩
theorem lw_p20 : lw_okq (⟨"FlashStoreModel", "dataOf", "(I)I"⟩, 11) := ⟨⟨by decide +kernel, by decide +kernel⟩, List.mem_of_getElem? (i := 425) (by decide +kernel), List.mem_of_getElem? (i := 496) (by decide +kernel), List.mem_of_getElem? (i := 497) (by decide +kernel)⟩
theorem lw_p21 : lw_okq (⟨"FlashStoreModel", "toClean", "()I"⟩, 11) := ⟨⟨by decide +kernel, by decide +kernel⟩, List.mem_of_getElem? (i := 425) (by decide +kernel), List.mem_of_getElem? (i := 508) (by decide +kernel), List.mem_of_getElem? (i := 509) (by decide +kernel)⟩
theorem lw_p22 : lw_okq (⟨"FlashStoreModel", "count", "(II)I"⟩, 11) := ⟨⟨by decide +kernel, by decide +kernel⟩, List.mem_of_getElem? (i := 425) (by decide +kernel), List.mem_of_getElem? (i := 512) (by decide +kernel), List.mem_of_getElem? (i := 513) (by decide +kernel)⟩
theorem lw_p23 : lw_okq (⟨"FlashStoreModel", "empty", "(I)Z"⟩, 11) := ⟨⟨by decide +kernel, by decide +kernel⟩, List.mem_of_getElem? (i := 425) (by decide +kernel), List.mem_of_getElem? (i := 516) (by decide +kernel), List.mem_of_getElem? (i := 517) (by decide +kernel)⟩
theorem lw_p24 : lw_okq (⟨"FlashStoreModel", "cleanBlock", "(I)V"⟩, 11) := ⟨⟨by decide +kernel, by decide +kernel⟩, List.mem_of_getElem? (i := 425) (by decide +kernel), List.mem_of_getElem? (i := 520) (by decide +kernel), List.mem_of_getElem? (i := 521) (by decide +kernel)⟩
theorem lw_p25 : lw_okq (⟨"FlashStoreModel", "readable", "(I)Z"⟩, 11) := ⟨⟨by decide +kernel, by decide +kernel⟩, List.mem_of_getElem? (i := 425) (by decide +kernel), List.mem_of_getElem? (i := 524) (by decide +kernel), List.mem_of_getElem? (i := 525) (by decide +kernel)⟩
theorem lw_p26 : lw_okq (⟨"FlashStoreModel", "placeBut", "(I)I"⟩, 11) := ⟨⟨by decide +kernel, by decide +kernel⟩, List.mem_of_getElem? (i := 425) (by decide +kernel), List.mem_of_getElem? (i := 528) (by decide +kernel), List.mem_of_getElem? (i := 529) (by decide +kernel)⟩
theorem lw_p27 : lw_okq (⟨"FlashStoreModel", "contentOf", "(I)J"⟩, 11) := ⟨⟨by decide +kernel, by decide +kernel⟩, List.mem_of_getElem? (i := 425) (by decide +kernel), List.mem_of_getElem? (i := 532) (by decide +kernel), List.mem_of_getElem? (i := 533) (by decide +kernel)⟩
theorem lw_p28 : lw_okq (⟨"FlashStoreModel", "put", "(IIJ)V"⟩, 11) := ⟨⟨by decide +kernel, by decide +kernel⟩, List.mem_of_getElem? (i := 425) (by decide +kernel), List.mem_of_getElem? (i := 536) (by decide +kernel), List.mem_of_getElem? (i := 537) (by decide +kernel)⟩
theorem lw_p29 : lw_okq (⟨"FlashStoreModel", "program", "(III)V"⟩, 11) := ⟨⟨by decide +kernel, by decide +kernel⟩, List.mem_of_getElem? (i := 425) (by decide +kernel), List.mem_of_getElem? (i := 541) (by decide +kernel), List.mem_of_getElem? (i := 542) (by decide +kernel)⟩
theorem lw_p30 : lw_okq (⟨"FlashStoreModel", "leavesOne", "(I)Z"⟩, 11) := ⟨⟨by decide +kernel, by decide +kernel⟩, List.mem_of_getElem? (i := 425) (by decide +kernel), List.mem_of_getElem? (i := 549) (by decide +kernel), List.mem_of_getElem? (i := 550) (by decide +kernel)⟩
def lw_privs_2 : List (MethodName × Nat) := [(⟨"FlashStore", "put", "(IJI)V"⟩, 6), (⟨"FlashStoreModel", "fail", "(I)I"⟩, 11), (⟨"FlashStoreModel", "codeword", "(I)I"⟩, 11), (⟨"FlashStoreModel", "left", "(I)I"⟩, 11), (⟨"FlashStoreModel", "dataOf", "(I)I"⟩, 11), (⟨"FlashStoreModel", "toClean", "()I"⟩, 11), (⟨"FlashStoreModel", "count", "(II)I"⟩, 11), (⟨"FlashStoreModel", "empty", "(I)Z"⟩, 11), (⟨"FlashStoreModel", "cleanBlock", "(I)V"⟩, 11), (⟨"FlashStoreModel", "readable", "(I)Z"⟩, 11), (⟨"FlashStoreModel", "placeBut", "(I)I"⟩, 11), (⟨"FlashStoreModel", "contentOf", "(I)J"⟩, 11), (⟨"FlashStoreModel", "put", "(IIJ)V"⟩, 11), (⟨"FlashStoreModel", "program", "(III)V"⟩, 11), (⟨"FlashStoreModel", "leavesOne", "(I)Z"⟩, 11)]
theorem lw_r2 : ∀ q ∈ lw_privs_2, lw_okq q := List.forall_mem_cons.mpr ⟨lw_p16, List.forall_mem_cons.mpr ⟨lw_p17, List.forall_mem_cons.mpr ⟨lw_p18, List.forall_mem_cons.mpr ⟨lw_p19, List.forall_mem_cons.mpr ⟨lw_p20, List.forall_mem_cons.mpr ⟨lw_p21, List.forall_mem_cons.mpr ⟨lw_p22, List.forall_mem_cons.mpr ⟨lw_p23, List.forall_mem_cons.mpr ⟨lw_p24, List.forall_mem_cons.mpr ⟨lw_p25, List.forall_mem_cons.mpr ⟨lw_p26, List.forall_mem_cons.mpr ⟨lw_p27, List.forall_mem_cons.mpr ⟨lw_p28, List.forall_mem_cons.mpr ⟨lw_p29, List.forall_mem_cons.mpr ⟨lw_p30, fun _ h => absurd h List.not_mem_nil⟩⟩⟩⟩⟩⟩⟩⟩⟩⟩⟩⟩⟩⟩⟩
def lw_privs : List (MethodName × Nat) := lw_privs_1 ++ (lw_privs_2)
def lw_tbl : List Cond := k2_sels lw_privs ++ tables_1
theorem lw_privs_ok : ∀ q ∈ lw_privs, lw_okq q := by
  show ∀ q ∈ lw_privs_1 ++ (lw_privs_2), lw_okq q
  exact List.forall_mem_append.mpr ⟨lw_r1, lw_r2⟩
end
section
/-! Names: methods, their code; fields; words by their places in the tables. -/
/-- all good words of the tables -/
def bw : List Cond := lw_tbl.filter goodWord
theorem bw_in {w : Cond} (h : w ∈ lw_tbl) (g : goodWord w = true) : w ∈ bw := List.mem_filter.mpr ⟨h, g⟩
theorem bw_tb {w : Cond} (h : w ∈ bw) : w ∈ lw_tbl := (List.mem_filter.mp h).1
theorem bw_good {w : Cond} (h : w ∈ bw) : (w.onTables && w.keeps) = true ∨ ∃ ty, w = .arrayClass ty := good_of_word (List.mem_filter.mp h).2
theorem tg_V {c1 c2 : Cond} {own C : String} {idx : Nat} {y : MethodName} (h1 : Cond.methodLink own idx y ∈ bw) (h2 : Cond.instanceMethod y ∈ bw) (h3 : Cond.selects C y y ∈ bw) (h4 : Cond.initialized C ∈ bw) (h5 : c2 ∈ bw) : GoodIn (c1 :: bw) (wsV own idx C y (c2 :: bw)) := by
  intro w hw
  have hm : w ∈ bw := by
    unfold wsV at hw
    rcases List.mem_append.mp hw with h | h
    · rcases List.mem_cons.mp h with rfl | h
      · exact h1
      rcases List.mem_cons.mp h with rfl | h
      · exact h2
      rcases List.mem_cons.mp h with rfl | h
      · exact h3
      rcases List.mem_cons.mp h with rfl | h
      · exact h4
      · cases h
    · rcases List.mem_cons.mp h with rfl | h
      · exact h5
      · exact h
  exact ⟨List.mem_cons_of_mem _ hm, bw_good hm⟩
theorem tg_S {c1 c2 : Cond} {own : String} {idx : Nat} {y : MethodName} (h1 : Cond.methodLink own idx y ∈ bw) (h2 : Cond.static y ∈ bw) (h3 : Cond.initialized y.cls ∈ bw) (h5 : c2 ∈ bw) : GoodIn (c1 :: bw) (va_wsS own idx y (c2 :: bw)) := by
  intro w hw
  have hm : w ∈ bw := by
    unfold va_wsS at hw
    rcases List.mem_append.mp hw with h | h
    · rcases List.mem_cons.mp h with rfl | h
      · exact h1
      rcases List.mem_cons.mp h with rfl | h
      · exact h2
      rcases List.mem_cons.mp h with rfl | h
      · exact h3
      · cases h
    · rcases List.mem_cons.mp h with rfl | h
      · exact h5
      · exact h
  exact ⟨List.mem_cons_of_mem _ hm, bw_good hm⟩
theorem tg_N {c1 c2 : Cond} (h5 : c2 ∈ bw) : GoodIn (c1 :: bw) (c2 :: bw) := by
  intro w hw
  have hm : w ∈ bw := by
    rcases List.mem_cons.mp hw with rfl | h
    · exact h5
    · exact h
  exact ⟨List.mem_cons_of_mem _ hm, bw_good hm⟩
def TM : u_T := fun k => match k with
  | 0 => ("FlashStore$Flash", "words", "[I", true)
  | _ => ("FlashStore$Flash", "erasures", "[I", true)
def tyTM : Nat → FieldType := fun k => match k with
  | 0 => .array .int
  | _ => .array .int
theorem nmTM : ∀ a, a < 2 → ∀ b, b < 2 → a ≠ b → (TM a).2.1 ≠ (TM b).2.1 := by decide +kernel
theorem tyTM_ok : ∀ k, k < 2 → parseFieldDescriptor (TM k).2.2.1 = some (tyTM k) := by decide +kernel
theorem iwTM : ∀ w ∈ u_ws "FlashStore$Flash" TM 2, w ∈ bw := by decide +kernel
theorem inTM {c1 : Cond} : ∀ w ∈ u_ws "FlashStore$Flash" TM 2, w ∈ c1 :: bw := fun w h => List.mem_cons_of_mem _ (iwTM w h)
def TF : u_T := fun k => match k with
  | 0 => ("FlashStore", "memory", "LFlashStore$Flash;", true)
  | 1 => ("FlashStore", "states", "[I", true)
  | 2 => ("FlashStore", "places", "[I", true)
  | 3 => ("FlashStore", "takenSerials", "[I", true)
  | 4 => ("FlashStore", "nextSerial", "I", false)
  | _ => ("FlashStore", "lastMended", "I", false)
def tyTF : Nat → FieldType := fun k => match k with
  | 0 => .object "FlashStore$Flash"
  | 1 => .array .int
  | 2 => .array .int
  | 3 => .array .int
  | 4 => .int
  | _ => .int
theorem nmTF : ∀ a, a < 6 → ∀ b, b < 6 → a ≠ b → (TF a).2.1 ≠ (TF b).2.1 := by decide +kernel
theorem tyTF_ok : ∀ k, k < 6 → parseFieldDescriptor (TF k).2.2.1 = some (tyTF k) := by decide +kernel
theorem iwTF : ∀ w ∈ u_ws "FlashStore" TF 6, w ∈ bw := by decide +kernel
theorem inTF {c1 : Cond} : ∀ w ∈ u_ws "FlashStore" TF 6, w ∈ c1 :: bw := fun w h => List.mem_cons_of_mem _ (iwTF w h)
def TR : u_T := fun k => match k with
  | 0 => ("FlashStoreModel", "thrown", "I", false)
  | 1 => ("FlashStoreModel", "remainder", "[I", true)
  | 2 => ("FlashStoreModel", "flash", "[I", true)
  | 3 => ("FlashStoreModel", "use", "[I", true)
  | 4 => ("FlashStoreModel", "logical", "[I", true)
  | 5 => ("FlashStoreModel", "serial", "[I", true)
  | 6 => ("FlashStoreModel", "wear", "[I", true)
  | 7 => ("FlashStoreModel", "where", "[I", true)
  | 8 => ("FlashStoreModel", "next", "I", false)
  | 9 => ("FlashStoreModel", "mended", "I", false)
  | _ => ("FlashStoreModel", "wrong", "I", false)
def tyTR : Nat → FieldType := fun k => match k with
  | 0 => .int
  | 1 => .array .int
  | 2 => .array .int
  | 3 => .array .int
  | 4 => .array .int
  | 5 => .array .int
  | 6 => .array .int
  | 7 => .array .int
  | 8 => .int
  | 9 => .int
  | _ => .int
theorem nmTR : ∀ a, a < 11 → ∀ b, b < 11 → a ≠ b → (TR a).2.1 ≠ (TR b).2.1 := by decide +kernel
theorem tyTR_ok : ∀ k, k < 11 → parseFieldDescriptor (TR k).2.2.1 = some (tyTR k) := by decide +kernel
theorem iwTR : ∀ w ∈ u_ws "FlashStoreModel" TR 11, w ∈ bw := by decide +kernel
theorem inTR {c1 : Cond} : ∀ w ∈ u_ws "FlashStoreModel" TR 11, w ∈ c1 :: bw := fun w h => List.mem_cons_of_mem _ (iwTR w h)
abbrev vwCl : List vw_C := [("FlashStore$Flash", TM, 2), ("FlashStore", TF, 6), ("FlashStoreModel", TR, 11)]
abbrev b_F_init : ByteArray := prog_1_method_1_code
def y_F_init : MethodName := ⟨"FlashStore", "<init>", "()V"⟩
abbrev ws_F_init : List Cond := .code y_F_init b_F_init 1 none :: bw
abbrev b_M_init : ByteArray := prog_3_method_1_code
def y_M_init : MethodName := ⟨"FlashStore$Flash", "<init>", "()V"⟩
abbrev ws_M_init : List Cond := .code y_M_init b_M_init 1 none :: bw
abbrev b_U_fill : ByteArray := prog_15_method_103_code
def y_U_fill : MethodName := ⟨"java/util/Arrays", "fill", "([II)V"⟩
abbrev ws_U_fill : List Cond := .code y_U_fill b_U_fill 4 none :: bw
abbrev b_F_mended : ByteArray := prog_1_method_4_code
def y_F_mended : MethodName := ⟨"FlashStore", "mended", "()I"⟩
abbrev ws_F_mended : List Cond := .code y_F_mended b_F_mended 1 (some .int) :: bw
abbrev b_F_mount : ByteArray := prog_1_method_10_code
def y_F_mount : MethodName := ⟨"FlashStore", "mount", "()I"⟩
abbrev ws_F_mount : List Cond := .code y_F_mount b_F_mount 5 (some .int) :: bw
abbrev b_M_tagAt : ByteArray := prog_3_method_7_code
def y_M_tagAt : MethodName := ⟨"FlashStore$Flash", "tagAt", "(I)I"⟩
abbrev ws_M_tagAt : List Cond := .code y_M_tagAt b_M_tagAt 3 (some .int) :: bw
abbrev b_M_wordAt : ByteArray := prog_3_method_2_code
def y_M_wordAt : MethodName := ⟨"FlashStore$Flash", "wordAt", "(II)I"⟩
abbrev ws_M_wordAt : List Cond := .code y_M_wordAt b_M_wordAt 3 (some .int) :: bw
abbrev b_C_mend : ByteArray := prog_2_method_4_code
def y_C_mend : MethodName := ⟨"FlashStore$Code", "mend", "(I)I"⟩
abbrev ws_C_mend : List Cond := .code y_C_mend b_C_mend 3 (some .int) :: bw
abbrev b_C_turned : ByteArray := prog_2_method_6_code
def y_C_turned : MethodName := ⟨"FlashStore$Code", "turned", "(II)I"⟩
abbrev ws_C_turned : List Cond := .code y_C_turned b_C_turned 2 (some .int) :: bw
abbrev b_C_mendOneInData : ByteArray := prog_2_method_5_code
def y_C_mendOneInData : MethodName := ⟨"FlashStore$Code", "mendOneInData", "(I)I"⟩
abbrev ws_C_mendOneInData : List Cond := .code y_C_mendOneInData b_C_mendOneInData 5 (some .int) :: bw
abbrev b_C_remainder : ByteArray := prog_2_method_8_code
def y_C_remainder : MethodName := ⟨"FlashStore$Code", "remainder", "(I)I"⟩
abbrev ws_C_remainder : List Cond := .code y_C_remainder b_C_remainder 3 (some .int) :: bw
abbrev b_U_bitCount : ByteArray := prog_10_method_49_code
def y_U_bitCount : MethodName := ⟨"java/lang/Integer", "bitCount", "(I)I"⟩
abbrev ws_U_bitCount : List Cond := .code y_U_bitCount b_U_bitCount 1 (some .int) :: bw
abbrev b_C_timesX : ByteArray := prog_2_method_7_code
def y_C_timesX : MethodName := ⟨"FlashStore$Code", "timesX", "(I)I"⟩
abbrev ws_C_timesX : List Cond := .code y_C_timesX b_C_timesX 2 (some .int) :: bw
abbrev b_C_dataOf : ByteArray := prog_2_method_3_code
def y_C_dataOf : MethodName := ⟨"FlashStore$Code", "dataOf", "(I)I"⟩
abbrev ws_C_dataOf : List Cond := .code y_C_dataOf b_C_dataOf 1 (some .int) :: bw
abbrev b_F_isSpoilt : ByteArray := prog_1_method_22_code
def y_F_isSpoilt : MethodName := ⟨"FlashStore", "isSpoilt", "(I)Z"⟩
abbrev ws_F_isSpoilt : List Cond := .code y_F_isSpoilt b_F_isSpoilt 1 (some .boolean) :: bw
abbrev b_F_take : ByteArray := prog_1_method_25_code
def y_F_take : MethodName := ⟨"FlashStore", "take", "(III)V"⟩
abbrev ws_F_take : List Cond := .code y_F_take b_F_take 4 none :: bw
abbrev b_F_isNewer : ByteArray := prog_1_method_23_code
def y_F_isNewer : MethodName := ⟨"FlashStore", "isNewer", "(II)Z"⟩
abbrev ws_F_isNewer : List Cond := .code y_F_isNewer b_F_isNewer 3 (some .boolean) :: bw
abbrev b_U_floorMod : ByteArray := prog_11_method_50_code
def y_U_floorMod : MethodName := ⟨"java/lang/Math", "floorMod", "(II)I"⟩
abbrev ws_U_floorMod : List Cond := .code y_U_floorMod b_U_floorMod 3 (some .int) :: bw
abbrev b_F_forget : ByteArray := prog_1_method_27_code
def y_F_forget : MethodName := ⟨"FlashStore", "forget", "(I)V"⟩
abbrev ws_F_forget : List Cond := .code y_F_forget b_F_forget 2 none :: bw
abbrev b_F_hold : ByteArray := prog_1_method_26_code
def y_F_hold : MethodName := ⟨"FlashStore", "hold", "(II)V"⟩
abbrev ws_F_hold : List Cond := .code y_F_hold b_F_hold 3 none :: bw
abbrev b_F_serialBehind : ByteArray := prog_1_method_24_code
def y_F_serialBehind : MethodName := ⟨"FlashStore", "serialBehind", "(I)I"⟩
abbrev ws_F_serialBehind : List Cond := .code y_F_serialBehind b_F_serialBehind 1 (some .int) :: bw
abbrev b_F_countHeld : ByteArray := prog_1_method_28_code
def y_F_countHeld : MethodName := ⟨"FlashStore", "countHeld", "()I"⟩
abbrev ws_F_countHeld : List Cond := .code y_F_countHeld b_F_countHeld 3 (some .int) :: bw
abbrev b_F_serial : ByteArray := prog_1_method_15_code
def y_F_serial : MethodName := ⟨"FlashStore", "serial", "()I"⟩
abbrev ws_F_serial : List Cond := .code y_F_serial b_F_serial 1 (some .int) :: bw
abbrev b_L_encode : ByteArray := method_3_code
def y_L_encode : MethodName := ⟨"FlashStoreLaw", "encode", "(LFlashStore;I[J)I"⟩
abbrev ws_L_encode : List Cond := .codeWith y_L_encode b_L_encode 4 (some .int) [((0 : Nat), (9 : Nat), (12 : Nat), (13 : Nat))] :: bw
abbrev b_F_encode : ByteArray := prog_1_method_2_code
def y_F_encode : MethodName := ⟨"FlashStore", "encode", "(I)I"⟩
abbrev ws_F_encode : List Cond := .code y_F_encode b_F_encode 2 (some .int) :: bw
abbrev b_C_codewordOf : ByteArray := prog_2_method_2_code
def y_C_codewordOf : MethodName := ⟨"FlashStore$Code", "codewordOf", "(I)I"⟩
abbrev ws_C_codewordOf : List Cond := .code y_C_codewordOf b_C_codewordOf 2 (some .int) :: bw
abbrev b_L_decode : ByteArray := method_4_code
def y_L_decode : MethodName := ⟨"FlashStoreLaw", "decode", "(LFlashStore;I[J)I"⟩
abbrev ws_L_decode : List Cond := .codeWith y_L_decode b_L_decode 4 (some .int) [((0 : Nat), (9 : Nat), (12 : Nat), (13 : Nat)), ((0 : Nat), (9 : Nat), (15 : Nat), (18 : Nat))] :: bw
abbrev b_F_decode : ByteArray := prog_1_method_3_code
def y_F_decode : MethodName := ⟨"FlashStore", "decode", "(I)I"⟩
abbrev ws_F_decode : List Cond := .code y_F_decode b_F_decode 3 (some .int) :: bw
abbrev b_L_write : ByteArray := method_5_code
def y_L_write : MethodName := ⟨"FlashStoreLaw", "write", "(LFlashStore;IJ)I"⟩
abbrev ws_L_write : List Cond := .codeWith y_L_write b_L_write 5 (some .int) [((0 : Nat), (6 : Nat), (9 : Nat), (13 : Nat)), ((0 : Nat), (6 : Nat), (13 : Nat), (24 : Nat))] :: bw
abbrev b_F_write : ByteArray := prog_1_method_5_code
def y_F_write : MethodName := ⟨"FlashStore", "write", "(IJ)V"⟩
abbrev ws_F_write : List Cond := .code y_F_write b_F_write 6 none :: bw
abbrev b_F_requireLogicalPage : ByteArray := prog_1_method_16_code
def y_F_requireLogicalPage : MethodName := ⟨"FlashStore", "requireLogicalPage", "(I)V"⟩
abbrev ws_F_requireLogicalPage : List Cond := .code y_F_requireLogicalPage b_F_requireLogicalPage 1 none :: bw
abbrev b_F_leavesBlockFree : ByteArray := prog_1_method_33_code
def y_F_leavesBlockFree : MethodName := ⟨"FlashStore", "leavesBlockFree", "()Z"⟩
abbrev ws_F_leavesBlockFree : List Cond := .code y_F_leavesBlockFree b_F_leavesBlockFree 3 (some .boolean) :: bw
abbrev b_F_freePlace : ByteArray := prog_1_method_32_code
def y_F_freePlace : MethodName := ⟨"FlashStore", "freePlace", "(I)I"⟩
abbrev ws_F_freePlace : List Cond := .code y_F_freePlace b_F_freePlace 5 (some .int) :: bw
abbrev b_F_blockOf : ByteArray := prog_1_method_21_code
def y_F_blockOf : MethodName := ⟨"FlashStore", "blockOf", "(I)I"⟩
abbrev ws_F_blockOf : List Cond := .code y_F_blockOf b_F_blockOf 1 (some .int) :: bw
abbrev b_F_isWholeFree : ByteArray := prog_1_method_31_code
def y_F_isWholeFree : MethodName := ⟨"FlashStore", "isWholeFree", "(I)Z"⟩
abbrev ws_F_isWholeFree : List Cond := .code y_F_isWholeFree b_F_isWholeFree 2 (some .boolean) :: bw
abbrev b_F_countInBlock : ByteArray := prog_1_method_30_code
def y_F_countInBlock : MethodName := ⟨"FlashStore", "countInBlock", "(II)I"⟩
abbrev ws_F_countInBlock : List Cond := .code y_F_countInBlock b_F_countInBlock 5 (some .int) :: bw
abbrev b_F_placeOf : ByteArray := prog_1_method_20_code
def y_F_placeOf : MethodName := ⟨"FlashStore", "placeOf", "(II)I"⟩
abbrev ws_F_placeOf : List Cond := .code y_F_placeOf b_F_placeOf 2 (some .int) :: bw
abbrev b_F_blockToClean : ByteArray := prog_1_method_35_code
def y_F_blockToClean : MethodName := ⟨"FlashStore", "blockToClean", "()I"⟩
abbrev ws_F_blockToClean : List Cond := .code y_F_blockToClean b_F_blockToClean 3 (some .int) :: bw
abbrev b_F_canBeCleaned : ByteArray := prog_1_method_36_code
def y_F_canBeCleaned : MethodName := ⟨"FlashStore", "canBeCleaned", "(I)Z"⟩
abbrev ws_F_canBeCleaned : List Cond := .code y_F_canBeCleaned b_F_canBeCleaned 3 (some .boolean) :: bw
abbrev b_F_countFreeOutside : ByteArray := prog_1_method_37_code
def y_F_countFreeOutside : MethodName := ⟨"FlashStore", "countFreeOutside", "(I)I"⟩
abbrev ws_F_countFreeOutside : List Cond := .code y_F_countFreeOutside b_F_countFreeOutside 4 (some .int) :: bw
abbrev b_F_isBetterToClean : ByteArray := prog_1_method_38_code
def y_F_isBetterToClean : MethodName := ⟨"FlashStore", "isBetterToClean", "(II)Z"⟩
abbrev ws_F_isBetterToClean : List Cond := .code y_F_isBetterToClean b_F_isBetterToClean 5 (some .boolean) :: bw
abbrev b_M_erasuresOf : ByteArray := prog_3_method_6_code
def y_M_erasuresOf : MethodName := ⟨"FlashStore$Flash", "erasuresOf", "(I)I"⟩
abbrev ws_M_erasuresOf : List Cond := .code y_M_erasuresOf b_M_erasuresOf 2 (some .int) :: bw
abbrev b_F_cleanBlock : ByteArray := prog_1_method_39_code
def y_F_cleanBlock : MethodName := ⟨"FlashStore", "cleanBlock", "(I)V"⟩
abbrev ws_F_cleanBlock : List Cond := .code y_F_cleanBlock b_F_cleanBlock 3 none :: bw
abbrev b_F_moveAway : ByteArray := prog_1_method_40_code
def y_F_moveAway : MethodName := ⟨"FlashStore", "moveAway", "(I)V"⟩
abbrev ws_F_moveAway : List Cond := .code y_F_moveAway b_F_moveAway 3 none :: bw
abbrev b_F_logicalPageAt : ByteArray := prog_1_method_29_code
def y_F_logicalPageAt : MethodName := ⟨"FlashStore", "logicalPageAt", "(I)I"⟩
abbrev ws_F_logicalPageAt : List Cond := .code y_F_logicalPageAt b_F_logicalPageAt 3 (some .int) :: bw
abbrev b_M_isReadable : ByteArray := prog_3_method_8_code
def y_M_isReadable : MethodName := ⟨"FlashStore$Flash", "isReadable", "(I)Z"⟩
abbrev ws_M_isReadable : List Cond := .code y_M_isReadable b_M_isReadable 3 (some .boolean) :: bw
abbrev b_M_contentAt : ByteArray := prog_3_method_9_code
def y_M_contentAt : MethodName := ⟨"FlashStore$Flash", "contentAt", "(I)J"⟩
abbrev ws_M_contentAt : List Cond := .code y_M_contentAt b_M_contentAt 7 (some .long) :: bw
abbrev b_F_put : ByteArray := prog_1_method_34_code
def y_F_put : MethodName := ⟨"FlashStore", "put", "(IJI)V"⟩
abbrev ws_F_put : List Cond := .code y_F_put b_F_put 6 none :: bw
abbrev b_M_program : ByteArray := prog_3_method_4_code
def y_M_program : MethodName := ⟨"FlashStore$Flash", "program", "(IJI)V"⟩
abbrev ws_M_program : List Cond := .code y_M_program b_M_program 8 none :: bw
abbrev b_M_erase : ByteArray := prog_3_method_5_code
def y_M_erase : MethodName := ⟨"FlashStore$Flash", "erase", "(I)V"⟩
abbrev ws_M_erase : List Cond := .code y_M_erase b_M_erase 4 none :: bw
abbrev b_L_read : ByteArray := method_6_code
def y_L_read : MethodName := ⟨"FlashStoreLaw", "read", "(LFlashStore;I[J)I"⟩
abbrev ws_L_read : List Cond := .codeWith y_L_read b_L_read 4 (some .int) [((0 : Nat), (8 : Nat), (11 : Nat), (13 : Nat)), ((0 : Nat), (8 : Nat), (14 : Nat), (24 : Nat)), ((0 : Nat), (8 : Nat), (17 : Nat), (18 : Nat))] :: bw
abbrev b_F_read : ByteArray := prog_1_method_6_code
def y_F_read : MethodName := ⟨"FlashStore", "read", "(I)J"⟩
abbrev ws_F_read : List Cond := .code y_F_read b_F_read 3 (some .long) :: bw
abbrev b_L_trim : ByteArray := method_7_code
def y_L_trim : MethodName := ⟨"FlashStoreLaw", "trim", "(LFlashStore;I[J)I"⟩
abbrev ws_L_trim : List Cond := .codeWith y_L_trim b_L_trim 4 (some .int) [((0 : Nat), (16 : Nat), (19 : Nat), (13 : Nat))] :: bw
abbrev b_F_trim : ByteArray := prog_1_method_7_code
def y_F_trim : MethodName := ⟨"FlashStore", "trim", "(I)Z"⟩
abbrev ws_F_trim : List Cond := .code y_F_trim b_F_trim 3 (some .boolean) :: bw
abbrev b_L_spoil : ByteArray := method_8_code
def y_L_spoil : MethodName := ⟨"FlashStoreLaw", "spoil", "(LFlashStore;IIII)I"⟩
abbrev ws_L_spoil : List Cond := .codeWith y_L_spoil b_L_spoil 6 (some .int) [((0 : Nat), (9 : Nat), (12 : Nat), (13 : Nat))] :: bw
abbrev b_F_spoil : ByteArray := prog_1_method_8_code
def y_F_spoil : MethodName := ⟨"FlashStore", "spoil", "(IIII)V"⟩
abbrev ws_F_spoil : List Cond := .code y_F_spoil b_F_spoil 5 none :: bw
abbrev b_F_requireWord : ByteArray := prog_1_method_19_code
def y_F_requireWord : MethodName := ⟨"FlashStore", "requireWord", "(III)V"⟩
abbrev ws_F_requireWord : List Cond := .code y_F_requireWord b_F_requireWord 3 none :: bw
abbrev b_F_requireBlock : ByteArray := prog_1_method_17_code
def y_F_requireBlock : MethodName := ⟨"FlashStore", "requireBlock", "(I)V"⟩
abbrev ws_F_requireBlock : List Cond := .code y_F_requireBlock b_F_requireBlock 1 none :: bw
abbrev b_F_requirePageOfBlock : ByteArray := prog_1_method_18_code
def y_F_requirePageOfBlock : MethodName := ⟨"FlashStore", "requirePageOfBlock", "(I)V"⟩
abbrev ws_F_requirePageOfBlock : List Cond := .code y_F_requirePageOfBlock b_F_requirePageOfBlock 1 none :: bw
abbrev b_M_turnOver : ByteArray := prog_3_method_3_code
def y_M_turnOver : MethodName := ⟨"FlashStore$Flash", "turnOver", "(III)V"⟩
abbrev ws_M_turnOver : List Cond := .code y_M_turnOver b_M_turnOver 4 none :: bw
abbrev b_L_flash : ByteArray := method_9_code
def y_L_flash : MethodName := ⟨"FlashStoreLaw", "flash", "(LFlashStore;III[J)I"⟩
abbrev ws_L_flash : List Cond := .codeWith y_L_flash b_L_flash 6 (some .int) [((0 : Nat), (12 : Nat), (15 : Nat), (13 : Nat))] :: bw
abbrev b_F_flash : ByteArray := prog_1_method_9_code
def y_F_flash : MethodName := ⟨"FlashStore", "flash", "(III)I"⟩
abbrev ws_F_flash : List Cond := .code y_F_flash b_F_flash 4 (some .int) :: bw
abbrev b_L_clean : ByteArray := method_10_code
def y_L_clean : MethodName := ⟨"FlashStoreLaw", "clean", "(LFlashStore;[J)I"⟩
abbrev ws_L_clean : List Cond := .codeWith y_L_clean b_L_clean 3 (some .int) [((0 : Nat), (8 : Nat), (11 : Nat), (24 : Nat))] :: bw
abbrev b_F_clean : ByteArray := prog_1_method_11_code
def y_F_clean : MethodName := ⟨"FlashStore", "clean", "()I"⟩
abbrev ws_F_clean : List Cond := .code y_F_clean b_F_clean 2 (some .int) :: bw
abbrev b_L_place : ByteArray := method_11_code
def y_L_place : MethodName := ⟨"FlashStoreLaw", "place", "(LFlashStore;I[J)I"⟩
abbrev ws_L_place : List Cond := .codeWith y_L_place b_L_place 4 (some .int) [((0 : Nat), (9 : Nat), (12 : Nat), (13 : Nat))] :: bw
abbrev b_F_place : ByteArray := prog_1_method_12_code
def y_F_place : MethodName := ⟨"FlashStore", "place", "(I)I"⟩
abbrev ws_F_place : List Cond := .code y_F_place b_F_place 2 (some .int) :: bw
abbrev b_L_state : ByteArray := method_12_code
def y_L_state : MethodName := ⟨"FlashStoreLaw", "state", "(LFlashStore;II[J)I"⟩
abbrev ws_L_state : List Cond := .codeWith y_L_state b_L_state 5 (some .int) [((0 : Nat), (10 : Nat), (13 : Nat), (13 : Nat))] :: bw
abbrev b_F_state : ByteArray := prog_1_method_13_code
def y_F_state : MethodName := ⟨"FlashStore", "state", "(II)I"⟩
abbrev ws_F_state : List Cond := .code y_F_state b_F_state 3 (some .int) :: bw
abbrev b_L_wear : ByteArray := method_13_code
def y_L_wear : MethodName := ⟨"FlashStoreLaw", "wear", "(LFlashStore;I[J)I"⟩
abbrev ws_L_wear : List Cond := .codeWith y_L_wear b_L_wear 4 (some .int) [((0 : Nat), (9 : Nat), (12 : Nat), (13 : Nat))] :: bw
abbrev b_F_wear : ByteArray := prog_1_method_14_code
def y_F_wear : MethodName := ⟨"FlashStore", "wear", "(I)I"⟩
abbrev ws_F_wear : List Cond := .code y_F_wear b_F_wear 2 (some .int) :: bw
abbrev b_R_init : ByteArray := prog_5_method_1_code
def y_R_init : MethodName := ⟨"FlashStoreModel", "<init>", "()V"⟩
abbrev ws_R_init : List Cond := .code y_R_init b_R_init 3 none :: bw
abbrev b_R_thrown : ByteArray := prog_5_method_2_code
def y_R_thrown : MethodName := ⟨"FlashStoreModel", "thrown", "()I"⟩
abbrev ws_R_thrown : List Cond := .code y_R_thrown b_R_thrown 1 (some .int) :: bw
abbrev b_R_encode : ByteArray := prog_5_method_8_code
def y_R_encode : MethodName := ⟨"FlashStoreModel", "encode", "(I)I"⟩
abbrev ws_R_encode : List Cond := .code y_R_encode b_R_encode 2 (some .int) :: bw
abbrev b_R_out : ByteArray := prog_5_method_3_code
def y_R_out : MethodName := ⟨"FlashStoreModel", "out", "(II)Z"⟩
abbrev ws_R_out : List Cond := .code y_R_out b_R_out 2 (some .boolean) :: bw
abbrev b_R_fail : ByteArray := prog_5_method_4_code
def y_R_fail : MethodName := ⟨"FlashStoreModel", "fail", "(I)I"⟩
abbrev ws_R_fail : List Cond := .code y_R_fail b_R_fail 2 (some .int) :: bw
abbrev b_R_codeword : ByteArray := prog_5_method_6_code
def y_R_codeword : MethodName := ⟨"FlashStoreModel", "codeword", "(I)I"⟩
abbrev ws_R_codeword : List Cond := .code y_R_codeword b_R_codeword 2 (some .int) :: bw
abbrev b_R_left : ByteArray := prog_5_method_5_code
def y_R_left : MethodName := ⟨"FlashStoreModel", "left", "(I)I"⟩
abbrev ws_R_left : List Cond := .code y_R_left b_R_left 4 (some .int) :: bw
abbrev b_R_decode : ByteArray := prog_5_method_9_code
def y_R_decode : MethodName := ⟨"FlashStoreModel", "decode", "(I)I"⟩
abbrev ws_R_decode : List Cond := .code y_R_decode b_R_decode 3 (some .int) :: bw
abbrev b_R_dataOf : ByteArray := prog_5_method_7_code
def y_R_dataOf : MethodName := ⟨"FlashStoreModel", "dataOf", "(I)I"⟩
abbrev ws_R_dataOf : List Cond := .code y_R_dataOf b_R_dataOf 7 (some .int) :: bw
abbrev b_R_mended : ByteArray := prog_5_method_10_code
def y_R_mended : MethodName := ⟨"FlashStoreModel", "mended", "()I"⟩
abbrev ws_R_mended : List Cond := .code y_R_mended b_R_mended 1 (some .int) :: bw
abbrev b_R_clean : ByteArray := prog_5_method_21_code
def y_R_clean : MethodName := ⟨"FlashStoreModel", "clean", "()I"⟩
abbrev ws_R_clean : List Cond := .code y_R_clean b_R_clean 2 (some .int) :: bw
abbrev b_R_toClean : ByteArray := prog_5_method_19_code
def y_R_toClean : MethodName := ⟨"FlashStoreModel", "toClean", "()I"⟩
abbrev ws_R_toClean : List Cond := .code y_R_toClean b_R_toClean 6 (some .int) :: bw
abbrev b_R_count : ByteArray := prog_5_method_14_code
def y_R_count : MethodName := ⟨"FlashStoreModel", "count", "(II)I"⟩
abbrev ws_R_count : List Cond := .code y_R_count b_R_count 5 (some .int) :: bw
abbrev b_R_empty : ByteArray := prog_5_method_15_code
def y_R_empty : MethodName := ⟨"FlashStoreModel", "empty", "(I)Z"⟩
abbrev ws_R_empty : List Cond := .code y_R_empty b_R_empty 2 (some .boolean) :: bw
abbrev b_R_cleanBlock : ByteArray := prog_5_method_20_code
def y_R_cleanBlock : MethodName := ⟨"FlashStoreModel", "cleanBlock", "(I)V"⟩
abbrev ws_R_cleanBlock : List Cond := .code y_R_cleanBlock b_R_cleanBlock 4 none :: bw
abbrev b_R_readable : ByteArray := prog_5_method_11_code
def y_R_readable : MethodName := ⟨"FlashStoreModel", "readable", "(I)Z"⟩
abbrev ws_R_readable : List Cond := .code y_R_readable b_R_readable 4 (some .boolean) :: bw
abbrev b_R_placeBut : ByteArray := prog_5_method_16_code
def y_R_placeBut : MethodName := ⟨"FlashStoreModel", "placeBut", "(I)I"⟩
abbrev ws_R_placeBut : List Cond := .code y_R_placeBut b_R_placeBut 5 (some .int) :: bw
abbrev b_R_contentOf : ByteArray := prog_5_method_12_code
def y_R_contentOf : MethodName := ⟨"FlashStoreModel", "contentOf", "(I)J"⟩
abbrev ws_R_contentOf : List Cond := .code y_R_contentOf b_R_contentOf 5 (some .long) :: bw
abbrev b_R_put : ByteArray := prog_5_method_17_code
def y_R_put : MethodName := ⟨"FlashStoreModel", "put", "(IIJ)V"⟩
abbrev ws_R_put : List Cond := .code y_R_put b_R_put 6 none :: bw
abbrev b_R_program : ByteArray := prog_5_method_13_code
def y_R_program : MethodName := ⟨"FlashStoreModel", "program", "(III)V"⟩
abbrev ws_R_program : List Cond := .code y_R_program b_R_program 4 none :: bw
abbrev b_R_write : ByteArray := prog_5_method_22_code
def y_R_write : MethodName := ⟨"FlashStoreModel", "write", "(IJ)V"⟩
abbrev ws_R_write : List Cond := .code y_R_write b_R_write 5 none :: bw
abbrev b_R_leavesOne : ByteArray := prog_5_method_18_code
def y_R_leavesOne : MethodName := ⟨"FlashStoreModel", "leavesOne", "(I)Z"⟩
abbrev ws_R_leavesOne : List Cond := .code y_R_leavesOne b_R_leavesOne 4 (some .boolean) :: bw
abbrev b_R_read : ByteArray := prog_5_method_23_code
def y_R_read : MethodName := ⟨"FlashStoreModel", "read", "(I)J"⟩
abbrev ws_R_read : List Cond := .code y_R_read b_R_read 3 (some .long) :: bw
abbrev b_R_trim : ByteArray := prog_5_method_24_code
def y_R_trim : MethodName := ⟨"FlashStoreModel", "trim", "(I)Z"⟩
abbrev ws_R_trim : List Cond := .code y_R_trim b_R_trim 2 (some .boolean) :: bw
abbrev b_R_mount : ByteArray := prog_5_method_26_code
def y_R_mount : MethodName := ⟨"FlashStoreModel", "mount", "()I"⟩
abbrev ws_R_mount : List Cond := .code y_R_mount b_R_mount 7 (some .int) :: bw
abbrev b_R_newer : ByteArray := prog_5_method_25_code
def y_R_newer : MethodName := ⟨"FlashStoreModel", "newer", "(II)Z"⟩
abbrev ws_R_newer : List Cond := .code y_R_newer b_R_newer 3 (some .boolean) :: bw
abbrev b_R_spoil : ByteArray := prog_5_method_28_code
def y_R_spoil : MethodName := ⟨"FlashStoreModel", "spoil", "(IIII)V"⟩
abbrev ws_R_spoil : List Cond := .code y_R_spoil b_R_spoil 6 none :: bw
abbrev b_R_isPage : ByteArray := prog_5_method_27_code
def y_R_isPage : MethodName := ⟨"FlashStoreModel", "isPage", "(II)Z"⟩
abbrev ws_R_isPage : List Cond := .code y_R_isPage b_R_isPage 2 (some .boolean) :: bw
abbrev b_R_flash : ByteArray := prog_5_method_29_code
def y_R_flash : MethodName := ⟨"FlashStoreModel", "flash", "(III)I"⟩
abbrev ws_R_flash : List Cond := .code y_R_flash b_R_flash 4 (some .int) :: bw
abbrev b_R_place : ByteArray := prog_5_method_30_code
def y_R_place : MethodName := ⟨"FlashStoreModel", "place", "(I)I"⟩
abbrev ws_R_place : List Cond := .code y_R_place b_R_place 2 (some .int) :: bw
abbrev b_R_state : ByteArray := prog_5_method_31_code
def y_R_state : MethodName := ⟨"FlashStoreModel", "state", "(II)I"⟩
abbrev ws_R_state : List Cond := .code y_R_state b_R_state 3 (some .int) :: bw
abbrev b_R_wear : ByteArray := prog_5_method_32_code
def y_R_wear : MethodName := ⟨"FlashStoreModel", "wear", "(I)I"⟩
abbrev ws_R_wear : List Cond := .code y_R_wear b_R_wear 2 (some .int) :: bw
abbrev b_R_serial : ByteArray := prog_5_method_33_code
def y_R_serial : MethodName := ⟨"FlashStoreModel", "serial", "()I"⟩
abbrev ws_R_serial : List Cond := .code y_R_serial b_R_serial 1 (some .int) :: bw
abbrev wF (cA : ClassId) (h0 q1 q2 q3 q4 q5 q6 : Nat) (st pl tk wd er : Nat → Int32) (nx md : Int32) : va_W := [(h0, .inr (1, [.ref q1, .ref q2, .ref q3, .ref q4, .int nx, .int md])), (q1, .inr (0, [.ref q5, .ref q6])), (q2, .inl (cA, 16, .inl st)), (q3, .inl (cA, 8, .inl pl)), (q4, .inl (cA, 8, .inl tk)), (q5, .inl (cA, 80, .inl wd)), (q6, .inl (cA, 4, .inl er))]
abbrev wM (cA : ClassId) (q1 q5 q6 : Nat) (wd er : Nat → Int32) : va_W := [(q1, .inr (0, [.ref q5, .ref q6])), (q5, .inl (cA, 80, .inl wd)), (q6, .inl (cA, 4, .inl er))]
abbrev wR (cA : ClassId) (h0 q1 q2 q3 q4 q5 q6 q7 : Nat) (rm fl us lg se we wh : Nat → Int32) (th nx md wr : Int32) : va_W := [(h0, .inr (2, [.int th, .ref q1, .ref q2, .ref q3, .ref q4, .ref q5, .ref q6, .ref q7, .int nx, .int md, .int wr])), (q1, .inl (cA, 31, .inl rm)), (q2, .inl (cA, 80, .inl fl)), (q3, .inl (cA, 16, .inl us)), (q4, .inl (cA, 16, .inl lg)), (q5, .inl (cA, 16, .inl se)), (q6, .inl (cA, 4, .inl we)), (q7, .inl (cA, 8, .inl wh))]
theorem bq_1_88 : (Jvm.Cond.code ({ cls := "FlashStore$Code", name := "remainder", desc := "(I)I" } : Jvm.MethodName) prog_2_method_8_code (3 : Nat) (Option.some Jvm.ClassFile.FieldType.int)) ∈ bw := bw_in (List.mem_append_right _ (List.mem_append_left _ (List.mem_of_getElem? (i := 88) rfl))) rfl
theorem bq_1_86 : (Jvm.Cond.methodLink "FlashStore$Code" (9 : Nat) ({ cls := "FlashStore$Code", name := "remainder", desc := "(I)I" } : Jvm.MethodName)) ∈ bw := bw_in (List.mem_append_right _ (List.mem_append_left _ (List.mem_of_getElem? (i := 86) rfl))) rfl
theorem bq_1_87 : (Jvm.Cond.static ({ cls := "FlashStore$Code", name := "remainder", desc := "(I)I" } : Jvm.MethodName)) ∈ bw := bw_in (List.mem_append_right _ (List.mem_append_left _ (List.mem_of_getElem? (i := 87) rfl))) rfl
theorem bq_1_9 : (Jvm.Cond.initialized "FlashStore$Code") ∈ bw := bw_in (List.mem_append_right _ (List.mem_append_left _ (List.mem_of_getElem? (i := 9) rfl))) rfl
theorem bq_1_92 : (Jvm.Cond.code ({ cls := "java/lang/Integer", name := "bitCount", desc := "(I)I" } : Jvm.MethodName) prog_10_method_49_code (1 : Nat) (Option.some Jvm.ClassFile.FieldType.int)) ∈ bw := bw_in (List.mem_append_right _ (List.mem_append_left _ (List.mem_of_getElem? (i := 92) rfl))) rfl
theorem bq_1_90 : (Jvm.Cond.methodLink "FlashStore$Code" (20 : Nat) ({ cls := "java/lang/Integer", name := "bitCount", desc := "(I)I" } : Jvm.MethodName)) ∈ bw := bw_in (List.mem_append_right _ (List.mem_append_left _ (List.mem_of_getElem? (i := 90) rfl))) rfl
theorem bq_1_91 : (Jvm.Cond.static ({ cls := "java/lang/Integer", name := "bitCount", desc := "(I)I" } : Jvm.MethodName)) ∈ bw := bw_in (List.mem_append_right _ (List.mem_append_left _ (List.mem_of_getElem? (i := 91) rfl))) rfl
theorem bq_1_10 : (Jvm.Cond.initialized "java/lang/Integer") ∈ bw := bw_in (List.mem_append_right _ (List.mem_append_left _ (List.mem_of_getElem? (i := 10) rfl))) rfl
theorem bq_1_98 : (Jvm.Cond.code ({ cls := "FlashStore$Code", name := "timesX", desc := "(I)I" } : Jvm.MethodName) prog_2_method_7_code (2 : Nat) (Option.some Jvm.ClassFile.FieldType.int)) ∈ bw := bw_in (List.mem_append_right _ (List.mem_append_left _ (List.mem_of_getElem? (i := 98) rfl))) rfl
theorem bq_1_96 : (Jvm.Cond.methodLink "FlashStore$Code" (25 : Nat) ({ cls := "FlashStore$Code", name := "timesX", desc := "(I)I" } : Jvm.MethodName)) ∈ bw := bw_in (List.mem_append_right _ (List.mem_append_left _ (List.mem_of_getElem? (i := 96) rfl))) rfl
theorem bq_1_97 : (Jvm.Cond.static ({ cls := "FlashStore$Code", name := "timesX", desc := "(I)I" } : Jvm.MethodName)) ∈ bw := bw_in (List.mem_append_right _ (List.mem_append_left _ (List.mem_of_getElem? (i := 97) rfl))) rfl
theorem bq_1_81 : (Jvm.Cond.code ({ cls := "FlashStore$Code", name := "turned", desc := "(II)I" } : Jvm.MethodName) prog_2_method_6_code (2 : Nat) (Option.some Jvm.ClassFile.FieldType.int)) ∈ bw := bw_in (List.mem_append_right _ (List.mem_append_left _ (List.mem_of_getElem? (i := 81) rfl))) rfl
theorem bq_1_79 : (Jvm.Cond.methodLink "FlashStore$Code" (13 : Nat) ({ cls := "FlashStore$Code", name := "turned", desc := "(II)I" } : Jvm.MethodName)) ∈ bw := bw_in (List.mem_append_right _ (List.mem_append_left _ (List.mem_of_getElem? (i := 79) rfl))) rfl
theorem bq_1_80 : (Jvm.Cond.static ({ cls := "FlashStore$Code", name := "turned", desc := "(II)I" } : Jvm.MethodName)) ∈ bw := bw_in (List.mem_append_right _ (List.mem_append_left _ (List.mem_of_getElem? (i := 80) rfl))) rfl
theorem bq_1_85 : (Jvm.Cond.code ({ cls := "FlashStore$Code", name := "mendOneInData", desc := "(I)I" } : Jvm.MethodName) prog_2_method_5_code (5 : Nat) (Option.some Jvm.ClassFile.FieldType.int)) ∈ bw := bw_in (List.mem_append_right _ (List.mem_append_left _ (List.mem_of_getElem? (i := 85) rfl))) rfl
theorem bq_1_83 : (Jvm.Cond.methodLink "FlashStore$Code" (17 : Nat) ({ cls := "FlashStore$Code", name := "mendOneInData", desc := "(I)I" } : Jvm.MethodName)) ∈ bw := bw_in (List.mem_append_right _ (List.mem_append_left _ (List.mem_of_getElem? (i := 83) rfl))) rfl
theorem bq_1_84 : (Jvm.Cond.static ({ cls := "FlashStore$Code", name := "mendOneInData", desc := "(I)I" } : Jvm.MethodName)) ∈ bw := bw_in (List.mem_append_right _ (List.mem_append_left _ (List.mem_of_getElem? (i := 84) rfl))) rfl
theorem bq_1_32 : (Jvm.Cond.fieldLink "FlashStore$Flash" (11 : Nat) "FlashStore$Flash" "words" "[I") ∈ bw := bw_in (List.mem_append_right _ (List.mem_append_left _ (List.mem_of_getElem? (i := 32) rfl))) rfl
theorem bq_1_214 : (Jvm.Cond.code ({ cls := "FlashStore$Code", name := "codewordOf", desc := "(I)I" } : Jvm.MethodName) prog_2_method_2_code (2 : Nat) (Option.some Jvm.ClassFile.FieldType.int)) ∈ bw := bw_in (List.mem_append_right _ (List.mem_append_left _ (List.mem_of_getElem? (i := 214) rfl))) rfl
theorem bq_2_102 : (Jvm.Cond.methodLink "FlashStore$Flash" (28 : Nat) ({ cls := "FlashStore$Code", name := "codewordOf", desc := "(I)I" } : Jvm.MethodName)) ∈ bw := bw_in (List.mem_append_right _ (List.mem_append_right _ (List.mem_append_left _ (List.mem_of_getElem? (i := 102) rfl)))) rfl
theorem bq_1_213 : (Jvm.Cond.static ({ cls := "FlashStore$Code", name := "codewordOf", desc := "(I)I" } : Jvm.MethodName)) ∈ bw := bw_in (List.mem_append_right _ (List.mem_append_left _ (List.mem_of_getElem? (i := 213) rfl))) rfl
theorem bq_2_36 : (Jvm.Cond.code ({ cls := "FlashStore", name := "placeOf", desc := "(II)I" } : Jvm.MethodName) prog_1_method_20_code (2 : Nat) (Option.some Jvm.ClassFile.FieldType.int)) ∈ bw := bw_in (List.mem_append_right _ (List.mem_append_right _ (List.mem_append_left _ (List.mem_of_getElem? (i := 36) rfl)))) rfl
theorem bq_1_1 : (Jvm.Cond.initialized "FlashStore") ∈ bw := bw_in (List.mem_append_right _ (List.mem_append_left _ (List.mem_of_getElem? (i := 1) rfl))) rfl
theorem bq_2_35 : (Jvm.Cond.static ({ cls := "FlashStore", name := "placeOf", desc := "(II)I" } : Jvm.MethodName)) ∈ bw := bw_in (List.mem_append_right _ (List.mem_append_right _ (List.mem_append_left _ (List.mem_of_getElem? (i := 35) rfl)))) rfl
theorem bq_1_33 : (Jvm.Cond.fieldLink "FlashStore$Flash" (15 : Nat) "FlashStore$Flash" "erasures" "[I") ∈ bw := bw_in (List.mem_append_right _ (List.mem_append_left _ (List.mem_of_getElem? (i := 33) rfl))) rfl
theorem bq_1_102 : (Jvm.Cond.code ({ cls := "FlashStore$Code", name := "dataOf", desc := "(I)I" } : Jvm.MethodName) prog_2_method_3_code (1 : Nat) (Option.some Jvm.ClassFile.FieldType.int)) ∈ bw := bw_in (List.mem_append_right _ (List.mem_append_left _ (List.mem_of_getElem? (i := 102) rfl))) rfl
theorem bq_1_100 : (Jvm.Cond.methodLink "FlashStore$Flash" (42 : Nat) ({ cls := "FlashStore$Code", name := "dataOf", desc := "(I)I" } : Jvm.MethodName)) ∈ bw := bw_in (List.mem_append_right _ (List.mem_append_left _ (List.mem_of_getElem? (i := 100) rfl))) rfl
theorem bq_1_101 : (Jvm.Cond.static ({ cls := "FlashStore$Code", name := "dataOf", desc := "(I)I" } : Jvm.MethodName)) ∈ bw := bw_in (List.mem_append_right _ (List.mem_append_left _ (List.mem_of_getElem? (i := 101) rfl))) rfl
theorem bq_1_78 : (Jvm.Cond.code ({ cls := "FlashStore$Code", name := "mend", desc := "(I)I" } : Jvm.MethodName) prog_2_method_4_code (3 : Nat) (Option.some Jvm.ClassFile.FieldType.int)) ∈ bw := bw_in (List.mem_append_right _ (List.mem_append_left _ (List.mem_of_getElem? (i := 78) rfl))) rfl
theorem bq_1_76 : (Jvm.Cond.methodLink "FlashStore$Flash" (39 : Nat) ({ cls := "FlashStore$Code", name := "mend", desc := "(I)I" } : Jvm.MethodName)) ∈ bw := bw_in (List.mem_append_right _ (List.mem_append_left _ (List.mem_of_getElem? (i := 76) rfl))) rfl
theorem bq_1_77 : (Jvm.Cond.static ({ cls := "FlashStore$Code", name := "mend", desc := "(I)I" } : Jvm.MethodName)) ∈ bw := bw_in (List.mem_append_right _ (List.mem_append_left _ (List.mem_of_getElem? (i := 77) rfl))) rfl
theorem bq_1_75 : (Jvm.Cond.code ({ cls := "FlashStore$Flash", name := "wordAt", desc := "(II)I" } : Jvm.MethodName) prog_3_method_2_code (3 : Nat) (Option.some Jvm.ClassFile.FieldType.int)) ∈ bw := bw_in (List.mem_append_right _ (List.mem_append_left _ (List.mem_of_getElem? (i := 75) rfl))) rfl
theorem bq_1_72 : (Jvm.Cond.methodLink "FlashStore$Flash" (36 : Nat) ({ cls := "FlashStore$Flash", name := "wordAt", desc := "(II)I" } : Jvm.MethodName)) ∈ bw := bw_in (List.mem_append_right _ (List.mem_append_left _ (List.mem_of_getElem? (i := 72) rfl))) rfl
theorem bq_1_73 : (Jvm.Cond.instanceMethod ({ cls := "FlashStore$Flash", name := "wordAt", desc := "(II)I" } : Jvm.MethodName)) ∈ bw := bw_in (List.mem_append_right _ (List.mem_append_left _ (List.mem_of_getElem? (i := 73) rfl))) rfl
theorem bq_1_74 : (Jvm.Cond.selects "FlashStore$Flash" ({ cls := "FlashStore$Flash", name := "wordAt", desc := "(II)I" } : Jvm.MethodName) ({ cls := "FlashStore$Flash", name := "wordAt", desc := "(II)I" } : Jvm.MethodName)) ∈ bw := bw_in (List.mem_append_right _ (List.mem_append_left _ (List.mem_of_getElem? (i := 74) rfl))) rfl
theorem bq_1_2 : (Jvm.Cond.initialized "FlashStore$Flash") ∈ bw := bw_in (List.mem_append_right _ (List.mem_append_left _ (List.mem_of_getElem? (i := 2) rfl))) rfl
theorem bq_1_116 : (Jvm.Cond.code ({ cls := "java/lang/Math", name := "floorMod", desc := "(II)I" } : Jvm.MethodName) prog_11_method_50_code (3 : Nat) (Option.some Jvm.ClassFile.FieldType.int)) ∈ bw := bw_in (List.mem_append_right _ (List.mem_append_left _ (List.mem_of_getElem? (i := 116) rfl))) rfl
theorem bq_1_114 : (Jvm.Cond.methodLink "FlashStore" (162 : Nat) ({ cls := "java/lang/Math", name := "floorMod", desc := "(II)I" } : Jvm.MethodName)) ∈ bw := bw_in (List.mem_append_right _ (List.mem_append_left _ (List.mem_of_getElem? (i := 114) rfl))) rfl
theorem bq_1_115 : (Jvm.Cond.static ({ cls := "java/lang/Math", name := "floorMod", desc := "(II)I" } : Jvm.MethodName)) ∈ bw := bw_in (List.mem_append_right _ (List.mem_append_left _ (List.mem_of_getElem? (i := 115) rfl))) rfl
theorem bq_1_13 : (Jvm.Cond.initialized "java/lang/Math") ∈ bw := bw_in (List.mem_append_right _ (List.mem_append_left _ (List.mem_of_getElem? (i := 13) rfl))) rfl
theorem bq_2_140 : (Jvm.Cond.code ({ cls := "FlashStore", name := "requirePageOfBlock", desc := "(I)V" } : Jvm.MethodName) prog_1_method_18_code (1 : Nat) (Option.none : Option Jvm.ClassFile.FieldType)) ∈ bw := bw_in (List.mem_append_right _ (List.mem_append_right _ (List.mem_append_left _ (List.mem_of_getElem? (i := 140) rfl)))) rfl
theorem bq_2_138 : (Jvm.Cond.methodLink "FlashStore" (148 : Nat) ({ cls := "FlashStore", name := "requirePageOfBlock", desc := "(I)V" } : Jvm.MethodName)) ∈ bw := bw_in (List.mem_append_right _ (List.mem_append_right _ (List.mem_append_left _ (List.mem_of_getElem? (i := 138) rfl)))) rfl
theorem bq_2_139 : (Jvm.Cond.static ({ cls := "FlashStore", name := "requirePageOfBlock", desc := "(I)V" } : Jvm.MethodName)) ∈ bw := bw_in (List.mem_append_right _ (List.mem_append_right _ (List.mem_append_left _ (List.mem_of_getElem? (i := 139) rfl)))) rfl
theorem bq_2_136 : (Jvm.Cond.code ({ cls := "FlashStore", name := "requireBlock", desc := "(I)V" } : Jvm.MethodName) prog_1_method_17_code (1 : Nat) (Option.none : Option Jvm.ClassFile.FieldType)) ∈ bw := bw_in (List.mem_append_right _ (List.mem_append_right _ (List.mem_append_left _ (List.mem_of_getElem? (i := 136) rfl)))) rfl
theorem bq_2_134 : (Jvm.Cond.methodLink "FlashStore" (145 : Nat) ({ cls := "FlashStore", name := "requireBlock", desc := "(I)V" } : Jvm.MethodName)) ∈ bw := bw_in (List.mem_append_right _ (List.mem_append_right _ (List.mem_append_left _ (List.mem_of_getElem? (i := 134) rfl)))) rfl
theorem bq_2_135 : (Jvm.Cond.static ({ cls := "FlashStore", name := "requireBlock", desc := "(I)V" } : Jvm.MethodName)) ∈ bw := bw_in (List.mem_append_right _ (List.mem_append_right _ (List.mem_append_left _ (List.mem_of_getElem? (i := 135) rfl)))) rfl
theorem bq_1_42 : (Jvm.Cond.fieldLink "FlashStore" (16 : Nat) "FlashStore" "states" "[I") ∈ bw := bw_in (List.mem_append_right _ (List.mem_append_left _ (List.mem_of_getElem? (i := 42) rfl))) rfl
theorem bq_1_43 : (Jvm.Cond.fieldLink "FlashStore" (20 : Nat) "FlashStore" "places" "[I") ∈ bw := bw_in (List.mem_append_right _ (List.mem_append_left _ (List.mem_of_getElem? (i := 43) rfl))) rfl
theorem bq_1_44 : (Jvm.Cond.fieldLink "FlashStore" (23 : Nat) "FlashStore" "takenSerials" "[I") ∈ bw := bw_in (List.mem_append_right _ (List.mem_append_left _ (List.mem_of_getElem? (i := 44) rfl))) rfl
theorem bq_1_113 : (Jvm.Cond.code ({ cls := "FlashStore", name := "isNewer", desc := "(II)Z" } : Jvm.MethodName) prog_1_method_23_code (3 : Nat) (Option.some Jvm.ClassFile.FieldType.boolean)) ∈ bw := bw_in (List.mem_append_right _ (List.mem_append_left _ (List.mem_of_getElem? (i := 113) rfl))) rfl
theorem bq_1_111 : (Jvm.Cond.methodLink "FlashStore" (133 : Nat) ({ cls := "FlashStore", name := "isNewer", desc := "(II)Z" } : Jvm.MethodName)) ∈ bw := bw_in (List.mem_append_right _ (List.mem_append_left _ (List.mem_of_getElem? (i := 111) rfl))) rfl
theorem bq_1_112 : (Jvm.Cond.static ({ cls := "FlashStore", name := "isNewer", desc := "(II)Z" } : Jvm.MethodName)) ∈ bw := bw_in (List.mem_append_right _ (List.mem_append_left _ (List.mem_of_getElem? (i := 112) rfl))) rfl
theorem bq_1_124 : (Jvm.Cond.code ({ cls := "FlashStore", name := "hold", desc := "(II)V" } : Jvm.MethodName) prog_1_method_26_code (3 : Nat) (Option.none : Option Jvm.ClassFile.FieldType)) ∈ bw := bw_in (List.mem_append_right _ (List.mem_append_left _ (List.mem_of_getElem? (i := 124) rfl))) rfl
theorem bq_1_121 : (Jvm.Cond.methodLink "FlashStore" (167 : Nat) ({ cls := "FlashStore", name := "hold", desc := "(II)V" } : Jvm.MethodName)) ∈ bw := bw_in (List.mem_append_right _ (List.mem_append_left _ (List.mem_of_getElem? (i := 121) rfl))) rfl
theorem bq_1_123 : (Jvm.Cond.instanceMethod ({ cls := "FlashStore", name := "hold", desc := "(II)V" } : Jvm.MethodName)) ∈ bw := bw_in (List.mem_append_right _ (List.mem_append_left _ (List.mem_of_getElem? (i := 123) rfl))) rfl
theorem bq_s_2 : (Jvm.Cond.selects "FlashStore" ({ cls := "FlashStore", name := "hold", desc := "(II)V" } : Jvm.MethodName) ({ cls := "FlashStore", name := "hold", desc := "(II)V" } : Jvm.MethodName)) ∈ bw := bw_in (List.mem_append_left _ (List.mem_of_getElem? (i := 2) rfl)) rfl
theorem bq_1_120 : (Jvm.Cond.code ({ cls := "FlashStore", name := "forget", desc := "(I)V" } : Jvm.MethodName) prog_1_method_27_code (2 : Nat) (Option.none : Option Jvm.ClassFile.FieldType)) ∈ bw := bw_in (List.mem_append_right _ (List.mem_append_left _ (List.mem_of_getElem? (i := 120) rfl))) rfl
theorem bq_1_117 : (Jvm.Cond.methodLink "FlashStore" (107 : Nat) ({ cls := "FlashStore", name := "forget", desc := "(I)V" } : Jvm.MethodName)) ∈ bw := bw_in (List.mem_append_right _ (List.mem_append_left _ (List.mem_of_getElem? (i := 117) rfl))) rfl
theorem bq_1_119 : (Jvm.Cond.instanceMethod ({ cls := "FlashStore", name := "forget", desc := "(I)V" } : Jvm.MethodName)) ∈ bw := bw_in (List.mem_append_right _ (List.mem_append_left _ (List.mem_of_getElem? (i := 119) rfl))) rfl
theorem bq_s_1 : (Jvm.Cond.selects "FlashStore" ({ cls := "FlashStore", name := "forget", desc := "(I)V" } : Jvm.MethodName) ({ cls := "FlashStore", name := "forget", desc := "(I)V" } : Jvm.MethodName)) ∈ bw := bw_in (List.mem_append_left _ (List.mem_of_getElem? (i := 1) rfl)) rfl
theorem bq_2_34 : (Jvm.Cond.methodLink "FlashStore" (114 : Nat) ({ cls := "FlashStore", name := "placeOf", desc := "(II)I" } : Jvm.MethodName)) ∈ bw := bw_in (List.mem_append_right _ (List.mem_append_right _ (List.mem_append_left _ (List.mem_of_getElem? (i := 34) rfl)))) rfl
theorem bq_2_33 : (Jvm.Cond.code ({ cls := "FlashStore", name := "countInBlock", desc := "(II)I" } : Jvm.MethodName) prog_1_method_30_code (5 : Nat) (Option.some Jvm.ClassFile.FieldType.int)) ∈ bw := bw_in (List.mem_append_right _ (List.mem_append_right _ (List.mem_append_left _ (List.mem_of_getElem? (i := 33) rfl)))) rfl
theorem bq_2_30 : (Jvm.Cond.methodLink "FlashStore" (171 : Nat) ({ cls := "FlashStore", name := "countInBlock", desc := "(II)I" } : Jvm.MethodName)) ∈ bw := bw_in (List.mem_append_right _ (List.mem_append_right _ (List.mem_append_left _ (List.mem_of_getElem? (i := 30) rfl)))) rfl
theorem bq_2_32 : (Jvm.Cond.instanceMethod ({ cls := "FlashStore", name := "countInBlock", desc := "(II)I" } : Jvm.MethodName)) ∈ bw := bw_in (List.mem_append_right _ (List.mem_append_right _ (List.mem_append_left _ (List.mem_of_getElem? (i := 32) rfl)))) rfl
theorem bq_s_8 : (Jvm.Cond.selects "FlashStore" ({ cls := "FlashStore", name := "countInBlock", desc := "(II)I" } : Jvm.MethodName) ({ cls := "FlashStore", name := "countInBlock", desc := "(II)I" } : Jvm.MethodName)) ∈ bw := bw_in (List.mem_append_left _ (List.mem_of_getElem? (i := 8) rfl)) rfl
theorem bq_2_29 : (Jvm.Cond.code ({ cls := "FlashStore", name := "isWholeFree", desc := "(I)Z" } : Jvm.MethodName) prog_1_method_31_code (2 : Nat) (Option.some Jvm.ClassFile.FieldType.boolean)) ∈ bw := bw_in (List.mem_append_right _ (List.mem_append_right _ (List.mem_append_left _ (List.mem_of_getElem? (i := 29) rfl)))) rfl
theorem bq_2_26 : (Jvm.Cond.methodLink "FlashStore" (177 : Nat) ({ cls := "FlashStore", name := "isWholeFree", desc := "(I)Z" } : Jvm.MethodName)) ∈ bw := bw_in (List.mem_append_right _ (List.mem_append_right _ (List.mem_append_left _ (List.mem_of_getElem? (i := 26) rfl)))) rfl
theorem bq_2_28 : (Jvm.Cond.instanceMethod ({ cls := "FlashStore", name := "isWholeFree", desc := "(I)Z" } : Jvm.MethodName)) ∈ bw := bw_in (List.mem_append_right _ (List.mem_append_right _ (List.mem_append_left _ (List.mem_of_getElem? (i := 28) rfl)))) rfl
theorem bq_s_7 : (Jvm.Cond.selects "FlashStore" ({ cls := "FlashStore", name := "isWholeFree", desc := "(I)Z" } : Jvm.MethodName) ({ cls := "FlashStore", name := "isWholeFree", desc := "(I)Z" } : Jvm.MethodName)) ∈ bw := bw_in (List.mem_append_left _ (List.mem_of_getElem? (i := 7) rfl)) rfl
theorem bq_2_25 : (Jvm.Cond.code ({ cls := "FlashStore", name := "blockOf", desc := "(I)I" } : Jvm.MethodName) prog_1_method_21_code (1 : Nat) (Option.some Jvm.ClassFile.FieldType.int)) ∈ bw := bw_in (List.mem_append_right _ (List.mem_append_right _ (List.mem_append_left _ (List.mem_of_getElem? (i := 25) rfl)))) rfl
theorem bq_2_23 : (Jvm.Cond.methodLink "FlashStore" (174 : Nat) ({ cls := "FlashStore", name := "blockOf", desc := "(I)I" } : Jvm.MethodName)) ∈ bw := bw_in (List.mem_append_right _ (List.mem_append_right _ (List.mem_append_left _ (List.mem_of_getElem? (i := 23) rfl)))) rfl
theorem bq_2_24 : (Jvm.Cond.static ({ cls := "FlashStore", name := "blockOf", desc := "(I)I" } : Jvm.MethodName)) ∈ bw := bw_in (List.mem_append_right _ (List.mem_append_right _ (List.mem_append_left _ (List.mem_of_getElem? (i := 24) rfl)))) rfl
theorem bq_2_22 : (Jvm.Cond.code ({ cls := "FlashStore", name := "freePlace", desc := "(I)I" } : Jvm.MethodName) prog_1_method_32_code (5 : Nat) (Option.some Jvm.ClassFile.FieldType.int)) ∈ bw := bw_in (List.mem_append_right _ (List.mem_append_right _ (List.mem_append_left _ (List.mem_of_getElem? (i := 22) rfl)))) rfl
theorem bq_2_19 : (Jvm.Cond.methodLink "FlashStore" (180 : Nat) ({ cls := "FlashStore", name := "freePlace", desc := "(I)I" } : Jvm.MethodName)) ∈ bw := bw_in (List.mem_append_right _ (List.mem_append_right _ (List.mem_append_left _ (List.mem_of_getElem? (i := 19) rfl)))) rfl
theorem bq_2_21 : (Jvm.Cond.instanceMethod ({ cls := "FlashStore", name := "freePlace", desc := "(I)I" } : Jvm.MethodName)) ∈ bw := bw_in (List.mem_append_right _ (List.mem_append_right _ (List.mem_append_left _ (List.mem_of_getElem? (i := 21) rfl)))) rfl
theorem bq_s_6 : (Jvm.Cond.selects "FlashStore" ({ cls := "FlashStore", name := "freePlace", desc := "(I)I" } : Jvm.MethodName) ({ cls := "FlashStore", name := "freePlace", desc := "(I)I" } : Jvm.MethodName)) ∈ bw := bw_in (List.mem_append_left _ (List.mem_of_getElem? (i := 6) rfl)) rfl
theorem bq_1_41 : (Jvm.Cond.fieldLink "FlashStore" (12 : Nat) "FlashStore" "memory" "LFlashStore$Flash;") ∈ bw := bw_in (List.mem_append_right _ (List.mem_append_left _ (List.mem_of_getElem? (i := 41) rfl))) rfl
theorem bq_1_45 : (Jvm.Cond.fieldLink "FlashStore" (26 : Nat) "FlashStore" "nextSerial" "I") ∈ bw := bw_in (List.mem_append_right _ (List.mem_append_left _ (List.mem_of_getElem? (i := 45) rfl))) rfl
theorem bq_1_127 : (Jvm.Cond.code ({ cls := "FlashStore", name := "serialBehind", desc := "(I)I" } : Jvm.MethodName) prog_1_method_24_code (1 : Nat) (Option.some Jvm.ClassFile.FieldType.int)) ∈ bw := bw_in (List.mem_append_right _ (List.mem_append_left _ (List.mem_of_getElem? (i := 127) rfl))) rfl
theorem bq_1_125 : (Jvm.Cond.methodLink "FlashStore" (137 : Nat) ({ cls := "FlashStore", name := "serialBehind", desc := "(I)I" } : Jvm.MethodName)) ∈ bw := bw_in (List.mem_append_right _ (List.mem_append_left _ (List.mem_of_getElem? (i := 125) rfl))) rfl
theorem bq_1_126 : (Jvm.Cond.static ({ cls := "FlashStore", name := "serialBehind", desc := "(I)I" } : Jvm.MethodName)) ∈ bw := bw_in (List.mem_append_right _ (List.mem_append_left _ (List.mem_of_getElem? (i := 126) rfl))) rfl
theorem bq_2_100 : (Jvm.Cond.code ({ cls := "FlashStore$Flash", name := "program", desc := "(IJI)V" } : Jvm.MethodName) prog_3_method_4_code (8 : Nat) (Option.none : Option Jvm.ClassFile.FieldType)) ∈ bw := bw_in (List.mem_append_right _ (List.mem_append_right _ (List.mem_append_left _ (List.mem_of_getElem? (i := 100) rfl)))) rfl
theorem bq_2_97 : (Jvm.Cond.methodLink "FlashStore" (183 : Nat) ({ cls := "FlashStore$Flash", name := "program", desc := "(IJI)V" } : Jvm.MethodName)) ∈ bw := bw_in (List.mem_append_right _ (List.mem_append_right _ (List.mem_append_left _ (List.mem_of_getElem? (i := 97) rfl)))) rfl
theorem bq_2_98 : (Jvm.Cond.instanceMethod ({ cls := "FlashStore$Flash", name := "program", desc := "(IJI)V" } : Jvm.MethodName)) ∈ bw := bw_in (List.mem_append_right _ (List.mem_append_right _ (List.mem_append_left _ (List.mem_of_getElem? (i := 98) rfl)))) rfl
theorem bq_2_99 : (Jvm.Cond.selects "FlashStore$Flash" ({ cls := "FlashStore$Flash", name := "program", desc := "(IJI)V" } : Jvm.MethodName) ({ cls := "FlashStore$Flash", name := "program", desc := "(IJI)V" } : Jvm.MethodName)) ∈ bw := bw_in (List.mem_append_right _ (List.mem_append_right _ (List.mem_append_left _ (List.mem_of_getElem? (i := 99) rfl)))) rfl
theorem bq_2_48 : (Jvm.Cond.code ({ cls := "FlashStore", name := "countFreeOutside", desc := "(I)I" } : Jvm.MethodName) prog_1_method_37_code (4 : Nat) (Option.some Jvm.ClassFile.FieldType.int)) ∈ bw := bw_in (List.mem_append_right _ (List.mem_append_right _ (List.mem_append_left _ (List.mem_of_getElem? (i := 48) rfl)))) rfl
theorem bq_2_45 : (Jvm.Cond.methodLink "FlashStore" (192 : Nat) ({ cls := "FlashStore", name := "countFreeOutside", desc := "(I)I" } : Jvm.MethodName)) ∈ bw := bw_in (List.mem_append_right _ (List.mem_append_right _ (List.mem_append_left _ (List.mem_of_getElem? (i := 45) rfl)))) rfl
theorem bq_2_47 : (Jvm.Cond.instanceMethod ({ cls := "FlashStore", name := "countFreeOutside", desc := "(I)I" } : Jvm.MethodName)) ∈ bw := bw_in (List.mem_append_right _ (List.mem_append_right _ (List.mem_append_left _ (List.mem_of_getElem? (i := 47) rfl)))) rfl
theorem bq_s_11 : (Jvm.Cond.selects "FlashStore" ({ cls := "FlashStore", name := "countFreeOutside", desc := "(I)I" } : Jvm.MethodName) ({ cls := "FlashStore", name := "countFreeOutside", desc := "(I)I" } : Jvm.MethodName)) ∈ bw := bw_in (List.mem_append_left _ (List.mem_of_getElem? (i := 11) rfl)) rfl
theorem bq_2_56 : (Jvm.Cond.code ({ cls := "FlashStore$Flash", name := "erasuresOf", desc := "(I)I" } : Jvm.MethodName) prog_3_method_6_code (2 : Nat) (Option.some Jvm.ClassFile.FieldType.int)) ∈ bw := bw_in (List.mem_append_right _ (List.mem_append_right _ (List.mem_append_left _ (List.mem_of_getElem? (i := 56) rfl)))) rfl
theorem bq_2_53 : (Jvm.Cond.methodLink "FlashStore" (151 : Nat) ({ cls := "FlashStore$Flash", name := "erasuresOf", desc := "(I)I" } : Jvm.MethodName)) ∈ bw := bw_in (List.mem_append_right _ (List.mem_append_right _ (List.mem_append_left _ (List.mem_of_getElem? (i := 53) rfl)))) rfl
theorem bq_2_54 : (Jvm.Cond.instanceMethod ({ cls := "FlashStore$Flash", name := "erasuresOf", desc := "(I)I" } : Jvm.MethodName)) ∈ bw := bw_in (List.mem_append_right _ (List.mem_append_right _ (List.mem_append_left _ (List.mem_of_getElem? (i := 54) rfl)))) rfl
theorem bq_2_55 : (Jvm.Cond.selects "FlashStore$Flash" ({ cls := "FlashStore$Flash", name := "erasuresOf", desc := "(I)I" } : Jvm.MethodName) ({ cls := "FlashStore$Flash", name := "erasuresOf", desc := "(I)I" } : Jvm.MethodName)) ∈ bw := bw_in (List.mem_append_right _ (List.mem_append_right _ (List.mem_append_left _ (List.mem_of_getElem? (i := 55) rfl)))) rfl
theorem bq_2_52 : (Jvm.Cond.code ({ cls := "FlashStore", name := "isBetterToClean", desc := "(II)Z" } : Jvm.MethodName) prog_1_method_38_code (5 : Nat) (Option.some Jvm.ClassFile.FieldType.boolean)) ∈ bw := bw_in (List.mem_append_right _ (List.mem_append_right _ (List.mem_append_left _ (List.mem_of_getElem? (i := 52) rfl)))) rfl
theorem bq_2_49 : (Jvm.Cond.methodLink "FlashStore" (189 : Nat) ({ cls := "FlashStore", name := "isBetterToClean", desc := "(II)Z" } : Jvm.MethodName)) ∈ bw := bw_in (List.mem_append_right _ (List.mem_append_right _ (List.mem_append_left _ (List.mem_of_getElem? (i := 49) rfl)))) rfl
theorem bq_2_51 : (Jvm.Cond.instanceMethod ({ cls := "FlashStore", name := "isBetterToClean", desc := "(II)Z" } : Jvm.MethodName)) ∈ bw := bw_in (List.mem_append_right _ (List.mem_append_right _ (List.mem_append_left _ (List.mem_of_getElem? (i := 51) rfl)))) rfl
theorem bq_s_12 : (Jvm.Cond.selects "FlashStore" ({ cls := "FlashStore", name := "isBetterToClean", desc := "(II)Z" } : Jvm.MethodName) ({ cls := "FlashStore", name := "isBetterToClean", desc := "(II)Z" } : Jvm.MethodName)) ∈ bw := bw_in (List.mem_append_left _ (List.mem_of_getElem? (i := 12) rfl)) rfl
theorem bq_2_44 : (Jvm.Cond.code ({ cls := "FlashStore", name := "canBeCleaned", desc := "(I)Z" } : Jvm.MethodName) prog_1_method_36_code (3 : Nat) (Option.some Jvm.ClassFile.FieldType.boolean)) ∈ bw := bw_in (List.mem_append_right _ (List.mem_append_right _ (List.mem_append_left _ (List.mem_of_getElem? (i := 44) rfl)))) rfl
theorem bq_2_41 : (Jvm.Cond.methodLink "FlashStore" (186 : Nat) ({ cls := "FlashStore", name := "canBeCleaned", desc := "(I)Z" } : Jvm.MethodName)) ∈ bw := bw_in (List.mem_append_right _ (List.mem_append_right _ (List.mem_append_left _ (List.mem_of_getElem? (i := 41) rfl)))) rfl
theorem bq_2_43 : (Jvm.Cond.instanceMethod ({ cls := "FlashStore", name := "canBeCleaned", desc := "(I)Z" } : Jvm.MethodName)) ∈ bw := bw_in (List.mem_append_right _ (List.mem_append_right _ (List.mem_append_left _ (List.mem_of_getElem? (i := 43) rfl)))) rfl
theorem bq_s_10 : (Jvm.Cond.selects "FlashStore" ({ cls := "FlashStore", name := "canBeCleaned", desc := "(I)Z" } : Jvm.MethodName) ({ cls := "FlashStore", name := "canBeCleaned", desc := "(I)Z" } : Jvm.MethodName)) ∈ bw := bw_in (List.mem_append_left _ (List.mem_of_getElem? (i := 10) rfl)) rfl
theorem bq_2_96 : (Jvm.Cond.code ({ cls := "FlashStore", name := "put", desc := "(IJI)V" } : Jvm.MethodName) prog_1_method_34_code (6 : Nat) (Option.none : Option Jvm.ClassFile.FieldType)) ∈ bw := bw_in (List.mem_append_right _ (List.mem_append_right _ (List.mem_append_left _ (List.mem_of_getElem? (i := 96) rfl)))) rfl
theorem bq_2_93 : (Jvm.Cond.methodLink "FlashStore" (91 : Nat) ({ cls := "FlashStore", name := "put", desc := "(IJI)V" } : Jvm.MethodName)) ∈ bw := bw_in (List.mem_append_right _ (List.mem_append_right _ (List.mem_append_left _ (List.mem_of_getElem? (i := 93) rfl)))) rfl
theorem bq_2_95 : (Jvm.Cond.instanceMethod ({ cls := "FlashStore", name := "put", desc := "(IJI)V" } : Jvm.MethodName)) ∈ bw := bw_in (List.mem_append_right _ (List.mem_append_right _ (List.mem_append_left _ (List.mem_of_getElem? (i := 95) rfl)))) rfl
theorem bq_s_16 : (Jvm.Cond.selects "FlashStore" ({ cls := "FlashStore", name := "put", desc := "(IJI)V" } : Jvm.MethodName) ({ cls := "FlashStore", name := "put", desc := "(IJI)V" } : Jvm.MethodName)) ∈ bw := bw_in (List.mem_append_left _ (List.mem_of_getElem? (i := 16) rfl)) rfl
theorem bq_2_92 : (Jvm.Cond.code ({ cls := "FlashStore$Flash", name := "contentAt", desc := "(I)J" } : Jvm.MethodName) prog_3_method_9_code (7 : Nat) (Option.some Jvm.ClassFile.FieldType.long)) ∈ bw := bw_in (List.mem_append_right _ (List.mem_append_right _ (List.mem_append_left _ (List.mem_of_getElem? (i := 92) rfl)))) rfl
theorem bq_2_89 : (Jvm.Cond.methodLink "FlashStore" (103 : Nat) ({ cls := "FlashStore$Flash", name := "contentAt", desc := "(I)J" } : Jvm.MethodName)) ∈ bw := bw_in (List.mem_append_right _ (List.mem_append_right _ (List.mem_append_left _ (List.mem_of_getElem? (i := 89) rfl)))) rfl
theorem bq_2_90 : (Jvm.Cond.instanceMethod ({ cls := "FlashStore$Flash", name := "contentAt", desc := "(I)J" } : Jvm.MethodName)) ∈ bw := bw_in (List.mem_append_right _ (List.mem_append_right _ (List.mem_append_left _ (List.mem_of_getElem? (i := 90) rfl)))) rfl
theorem bq_2_91 : (Jvm.Cond.selects "FlashStore$Flash" ({ cls := "FlashStore$Flash", name := "contentAt", desc := "(I)J" } : Jvm.MethodName) ({ cls := "FlashStore$Flash", name := "contentAt", desc := "(I)J" } : Jvm.MethodName)) ∈ bw := bw_in (List.mem_append_right _ (List.mem_append_right _ (List.mem_append_left _ (List.mem_of_getElem? (i := 91) rfl)))) rfl
theorem bq_2_88 : (Jvm.Cond.code ({ cls := "FlashStore$Flash", name := "isReadable", desc := "(I)Z" } : Jvm.MethodName) prog_3_method_8_code (3 : Nat) (Option.some Jvm.ClassFile.FieldType.boolean)) ∈ bw := bw_in (List.mem_append_right _ (List.mem_append_right _ (List.mem_append_left _ (List.mem_of_getElem? (i := 88) rfl)))) rfl
theorem bq_2_85 : (Jvm.Cond.methodLink "FlashStore" (97 : Nat) ({ cls := "FlashStore$Flash", name := "isReadable", desc := "(I)Z" } : Jvm.MethodName)) ∈ bw := bw_in (List.mem_append_right _ (List.mem_append_right _ (List.mem_append_left _ (List.mem_of_getElem? (i := 85) rfl)))) rfl
theorem bq_2_86 : (Jvm.Cond.instanceMethod ({ cls := "FlashStore$Flash", name := "isReadable", desc := "(I)Z" } : Jvm.MethodName)) ∈ bw := bw_in (List.mem_append_right _ (List.mem_append_right _ (List.mem_append_left _ (List.mem_of_getElem? (i := 86) rfl)))) rfl
theorem bq_2_87 : (Jvm.Cond.selects "FlashStore$Flash" ({ cls := "FlashStore$Flash", name := "isReadable", desc := "(I)Z" } : Jvm.MethodName) ({ cls := "FlashStore$Flash", name := "isReadable", desc := "(I)Z" } : Jvm.MethodName)) ∈ bw := bw_in (List.mem_append_right _ (List.mem_append_right _ (List.mem_append_left _ (List.mem_of_getElem? (i := 87) rfl)))) rfl
theorem bq_2_84 : (Jvm.Cond.code ({ cls := "FlashStore", name := "logicalPageAt", desc := "(I)I" } : Jvm.MethodName) prog_1_method_29_code (3 : Nat) (Option.some Jvm.ClassFile.FieldType.int)) ∈ bw := bw_in (List.mem_append_right _ (List.mem_append_right _ (List.mem_append_left _ (List.mem_of_getElem? (i := 84) rfl)))) rfl
theorem bq_2_81 : (Jvm.Cond.methodLink "FlashStore" (201 : Nat) ({ cls := "FlashStore", name := "logicalPageAt", desc := "(I)I" } : Jvm.MethodName)) ∈ bw := bw_in (List.mem_append_right _ (List.mem_append_right _ (List.mem_append_left _ (List.mem_of_getElem? (i := 81) rfl)))) rfl
theorem bq_2_83 : (Jvm.Cond.instanceMethod ({ cls := "FlashStore", name := "logicalPageAt", desc := "(I)I" } : Jvm.MethodName)) ∈ bw := bw_in (List.mem_append_right _ (List.mem_append_right _ (List.mem_append_left _ (List.mem_of_getElem? (i := 83) rfl)))) rfl
theorem bq_s_15 : (Jvm.Cond.selects "FlashStore" ({ cls := "FlashStore", name := "logicalPageAt", desc := "(I)I" } : Jvm.MethodName) ({ cls := "FlashStore", name := "logicalPageAt", desc := "(I)I" } : Jvm.MethodName)) ∈ bw := bw_in (List.mem_append_left _ (List.mem_of_getElem? (i := 15) rfl)) rfl
theorem bq_2_106 : (Jvm.Cond.code ({ cls := "FlashStore$Flash", name := "erase", desc := "(I)V" } : Jvm.MethodName) prog_3_method_5_code (4 : Nat) (Option.none : Option Jvm.ClassFile.FieldType)) ∈ bw := bw_in (List.mem_append_right _ (List.mem_append_right _ (List.mem_append_left _ (List.mem_of_getElem? (i := 106) rfl)))) rfl
theorem bq_2_103 : (Jvm.Cond.methodLink "FlashStore" (198 : Nat) ({ cls := "FlashStore$Flash", name := "erase", desc := "(I)V" } : Jvm.MethodName)) ∈ bw := bw_in (List.mem_append_right _ (List.mem_append_right _ (List.mem_append_left _ (List.mem_of_getElem? (i := 103) rfl)))) rfl
theorem bq_2_104 : (Jvm.Cond.instanceMethod ({ cls := "FlashStore$Flash", name := "erase", desc := "(I)V" } : Jvm.MethodName)) ∈ bw := bw_in (List.mem_append_right _ (List.mem_append_right _ (List.mem_append_left _ (List.mem_of_getElem? (i := 104) rfl)))) rfl
theorem bq_2_105 : (Jvm.Cond.selects "FlashStore$Flash" ({ cls := "FlashStore$Flash", name := "erase", desc := "(I)V" } : Jvm.MethodName) ({ cls := "FlashStore$Flash", name := "erase", desc := "(I)V" } : Jvm.MethodName)) ∈ bw := bw_in (List.mem_append_right _ (List.mem_append_right _ (List.mem_append_left _ (List.mem_of_getElem? (i := 105) rfl)))) rfl
theorem bq_2_80 : (Jvm.Cond.code ({ cls := "FlashStore", name := "moveAway", desc := "(I)V" } : Jvm.MethodName) prog_1_method_40_code (3 : Nat) (Option.none : Option Jvm.ClassFile.FieldType)) ∈ bw := bw_in (List.mem_append_right _ (List.mem_append_right _ (List.mem_append_left _ (List.mem_of_getElem? (i := 80) rfl)))) rfl
theorem bq_2_77 : (Jvm.Cond.methodLink "FlashStore" (195 : Nat) ({ cls := "FlashStore", name := "moveAway", desc := "(I)V" } : Jvm.MethodName)) ∈ bw := bw_in (List.mem_append_right _ (List.mem_append_right _ (List.mem_append_left _ (List.mem_of_getElem? (i := 77) rfl)))) rfl
theorem bq_2_79 : (Jvm.Cond.instanceMethod ({ cls := "FlashStore", name := "moveAway", desc := "(I)V" } : Jvm.MethodName)) ∈ bw := bw_in (List.mem_append_right _ (List.mem_append_right _ (List.mem_append_left _ (List.mem_of_getElem? (i := 79) rfl)))) rfl
theorem bq_s_14 : (Jvm.Cond.selects "FlashStore" ({ cls := "FlashStore", name := "moveAway", desc := "(I)V" } : Jvm.MethodName) ({ cls := "FlashStore", name := "moveAway", desc := "(I)V" } : Jvm.MethodName)) ∈ bw := bw_in (List.mem_append_left _ (List.mem_of_getElem? (i := 14) rfl)) rfl
theorem bq_1_212 : (Jvm.Cond.methodLink "FlashStore" (49 : Nat) ({ cls := "FlashStore$Code", name := "codewordOf", desc := "(I)I" } : Jvm.MethodName)) ∈ bw := bw_in (List.mem_append_right _ (List.mem_append_left _ (List.mem_of_getElem? (i := 212) rfl))) rfl
theorem bq_1_46 : (Jvm.Cond.fieldLink "FlashStore" (30 : Nat) "FlashStore" "lastMended" "I") ∈ bw := bw_in (List.mem_append_right _ (List.mem_append_left _ (List.mem_of_getElem? (i := 46) rfl))) rfl
theorem bq_2_2 : (Jvm.Cond.methodLink "FlashStore" (68 : Nat) ({ cls := "FlashStore$Code", name := "dataOf", desc := "(I)I" } : Jvm.MethodName)) ∈ bw := bw_in (List.mem_append_right _ (List.mem_append_right _ (List.mem_append_left _ (List.mem_of_getElem? (i := 2) rfl)))) rfl
theorem bq_2_1 : (Jvm.Cond.methodLink "FlashStore" (63 : Nat) ({ cls := "java/lang/Integer", name := "bitCount", desc := "(I)I" } : Jvm.MethodName)) ∈ bw := bw_in (List.mem_append_right _ (List.mem_append_right _ (List.mem_append_left _ (List.mem_of_getElem? (i := 1) rfl)))) rfl
theorem bq_1_224 : (Jvm.Cond.methodLink "FlashStore" (55 : Nat) ({ cls := "FlashStore$Code", name := "mend", desc := "(I)I" } : Jvm.MethodName)) ∈ bw := bw_in (List.mem_append_right _ (List.mem_append_left _ (List.mem_of_getElem? (i := 224) rfl))) rfl
theorem bq_2_13 : (Jvm.Cond.code ({ cls := "FlashStore", name := "requireLogicalPage", desc := "(I)V" } : Jvm.MethodName) prog_1_method_16_code (1 : Nat) (Option.none : Option Jvm.ClassFile.FieldType)) ∈ bw := bw_in (List.mem_append_right _ (List.mem_append_right _ (List.mem_append_left _ (List.mem_of_getElem? (i := 13) rfl)))) rfl
theorem bq_2_11 : (Jvm.Cond.methodLink "FlashStore" (71 : Nat) ({ cls := "FlashStore", name := "requireLogicalPage", desc := "(I)V" } : Jvm.MethodName)) ∈ bw := bw_in (List.mem_append_right _ (List.mem_append_right _ (List.mem_append_left _ (List.mem_of_getElem? (i := 11) rfl)))) rfl
theorem bq_2_12 : (Jvm.Cond.static ({ cls := "FlashStore", name := "requireLogicalPage", desc := "(I)V" } : Jvm.MethodName)) ∈ bw := bw_in (List.mem_append_right _ (List.mem_append_right _ (List.mem_append_left _ (List.mem_of_getElem? (i := 12) rfl)))) rfl
theorem bq_2_76 : (Jvm.Cond.code ({ cls := "FlashStore", name := "cleanBlock", desc := "(I)V" } : Jvm.MethodName) prog_1_method_39_code (3 : Nat) (Option.none : Option Jvm.ClassFile.FieldType)) ∈ bw := bw_in (List.mem_append_right _ (List.mem_append_right _ (List.mem_append_left _ (List.mem_of_getElem? (i := 76) rfl)))) rfl
theorem bq_2_73 : (Jvm.Cond.methodLink "FlashStore" (88 : Nat) ({ cls := "FlashStore", name := "cleanBlock", desc := "(I)V" } : Jvm.MethodName)) ∈ bw := bw_in (List.mem_append_right _ (List.mem_append_right _ (List.mem_append_left _ (List.mem_of_getElem? (i := 73) rfl)))) rfl
theorem bq_2_75 : (Jvm.Cond.instanceMethod ({ cls := "FlashStore", name := "cleanBlock", desc := "(I)V" } : Jvm.MethodName)) ∈ bw := bw_in (List.mem_append_right _ (List.mem_append_right _ (List.mem_append_left _ (List.mem_of_getElem? (i := 75) rfl)))) rfl
theorem bq_s_13 : (Jvm.Cond.selects "FlashStore" ({ cls := "FlashStore", name := "cleanBlock", desc := "(I)V" } : Jvm.MethodName) ({ cls := "FlashStore", name := "cleanBlock", desc := "(I)V" } : Jvm.MethodName)) ∈ bw := bw_in (List.mem_append_left _ (List.mem_of_getElem? (i := 13) rfl)) rfl
theorem bq_2_40 : (Jvm.Cond.code ({ cls := "FlashStore", name := "blockToClean", desc := "()I" } : Jvm.MethodName) prog_1_method_35_code (3 : Nat) (Option.some Jvm.ClassFile.FieldType.int)) ∈ bw := bw_in (List.mem_append_right _ (List.mem_append_right _ (List.mem_append_left _ (List.mem_of_getElem? (i := 40) rfl)))) rfl
theorem bq_2_37 : (Jvm.Cond.methodLink "FlashStore" (79 : Nat) ({ cls := "FlashStore", name := "blockToClean", desc := "()I" } : Jvm.MethodName)) ∈ bw := bw_in (List.mem_append_right _ (List.mem_append_right _ (List.mem_append_left _ (List.mem_of_getElem? (i := 37) rfl)))) rfl
theorem bq_2_39 : (Jvm.Cond.instanceMethod ({ cls := "FlashStore", name := "blockToClean", desc := "()I" } : Jvm.MethodName)) ∈ bw := bw_in (List.mem_append_right _ (List.mem_append_right _ (List.mem_append_left _ (List.mem_of_getElem? (i := 39) rfl)))) rfl
theorem bq_s_9 : (Jvm.Cond.selects "FlashStore" ({ cls := "FlashStore", name := "blockToClean", desc := "()I" } : Jvm.MethodName) ({ cls := "FlashStore", name := "blockToClean", desc := "()I" } : Jvm.MethodName)) ∈ bw := bw_in (List.mem_append_left _ (List.mem_of_getElem? (i := 9) rfl)) rfl
theorem bq_2_18 : (Jvm.Cond.code ({ cls := "FlashStore", name := "leavesBlockFree", desc := "()Z" } : Jvm.MethodName) prog_1_method_33_code (3 : Nat) (Option.some Jvm.ClassFile.FieldType.boolean)) ∈ bw := bw_in (List.mem_append_right _ (List.mem_append_right _ (List.mem_append_left _ (List.mem_of_getElem? (i := 18) rfl)))) rfl
theorem bq_2_15 : (Jvm.Cond.methodLink "FlashStore" (75 : Nat) ({ cls := "FlashStore", name := "leavesBlockFree", desc := "()Z" } : Jvm.MethodName)) ∈ bw := bw_in (List.mem_append_right _ (List.mem_append_right _ (List.mem_append_left _ (List.mem_of_getElem? (i := 15) rfl)))) rfl
theorem bq_2_17 : (Jvm.Cond.instanceMethod ({ cls := "FlashStore", name := "leavesBlockFree", desc := "()Z" } : Jvm.MethodName)) ∈ bw := bw_in (List.mem_append_right _ (List.mem_append_right _ (List.mem_append_left _ (List.mem_of_getElem? (i := 17) rfl)))) rfl
theorem bq_s_5 : (Jvm.Cond.selects "FlashStore" ({ cls := "FlashStore", name := "leavesBlockFree", desc := "()Z" } : Jvm.MethodName) ({ cls := "FlashStore", name := "leavesBlockFree", desc := "()Z" } : Jvm.MethodName)) ∈ bw := bw_in (List.mem_append_left _ (List.mem_of_getElem? (i := 5) rfl)) rfl
theorem bq_2_146 : (Jvm.Cond.code ({ cls := "FlashStore$Flash", name := "turnOver", desc := "(III)V" } : Jvm.MethodName) prog_3_method_3_code (4 : Nat) (Option.none : Option Jvm.ClassFile.FieldType)) ∈ bw := bw_in (List.mem_append_right _ (List.mem_append_right _ (List.mem_append_left _ (List.mem_of_getElem? (i := 146) rfl)))) rfl
theorem bq_2_143 : (Jvm.Cond.methodLink "FlashStore" (118 : Nat) ({ cls := "FlashStore$Flash", name := "turnOver", desc := "(III)V" } : Jvm.MethodName)) ∈ bw := bw_in (List.mem_append_right _ (List.mem_append_right _ (List.mem_append_left _ (List.mem_of_getElem? (i := 143) rfl)))) rfl
theorem bq_2_144 : (Jvm.Cond.instanceMethod ({ cls := "FlashStore$Flash", name := "turnOver", desc := "(III)V" } : Jvm.MethodName)) ∈ bw := bw_in (List.mem_append_right _ (List.mem_append_right _ (List.mem_append_left _ (List.mem_of_getElem? (i := 144) rfl)))) rfl
theorem bq_2_145 : (Jvm.Cond.selects "FlashStore$Flash" ({ cls := "FlashStore$Flash", name := "turnOver", desc := "(III)V" } : Jvm.MethodName) ({ cls := "FlashStore$Flash", name := "turnOver", desc := "(III)V" } : Jvm.MethodName)) ∈ bw := bw_in (List.mem_append_right _ (List.mem_append_right _ (List.mem_append_left _ (List.mem_of_getElem? (i := 145) rfl)))) rfl
theorem bq_2_133 : (Jvm.Cond.code ({ cls := "FlashStore", name := "requireWord", desc := "(III)V" } : Jvm.MethodName) prog_1_method_19_code (3 : Nat) (Option.none : Option Jvm.ClassFile.FieldType)) ∈ bw := bw_in (List.mem_append_right _ (List.mem_append_right _ (List.mem_append_left _ (List.mem_of_getElem? (i := 133) rfl)))) rfl
theorem bq_2_131 : (Jvm.Cond.methodLink "FlashStore" (110 : Nat) ({ cls := "FlashStore", name := "requireWord", desc := "(III)V" } : Jvm.MethodName)) ∈ bw := bw_in (List.mem_append_right _ (List.mem_append_right _ (List.mem_append_left _ (List.mem_of_getElem? (i := 131) rfl)))) rfl
theorem bq_2_132 : (Jvm.Cond.static ({ cls := "FlashStore", name := "requireWord", desc := "(III)V" } : Jvm.MethodName)) ∈ bw := bw_in (List.mem_append_right _ (List.mem_append_right _ (List.mem_append_left _ (List.mem_of_getElem? (i := 132) rfl)))) rfl
theorem bq_2_154 : (Jvm.Cond.methodLink "FlashStore" (121 : Nat) ({ cls := "FlashStore$Flash", name := "wordAt", desc := "(II)I" } : Jvm.MethodName)) ∈ bw := bw_in (List.mem_append_right _ (List.mem_append_right _ (List.mem_append_left _ (List.mem_of_getElem? (i := 154) rfl)))) rfl
theorem bq_1_31 : (Jvm.Cond.code ({ cls := "java/util/Arrays", name := "fill", desc := "([II)V" } : Jvm.MethodName) prog_15_method_103_code (4 : Nat) (Option.none : Option Jvm.ClassFile.FieldType)) ∈ bw := bw_in (List.mem_append_right _ (List.mem_append_left _ (List.mem_of_getElem? (i := 31) rfl))) rfl
theorem bq_1_40 : (Jvm.Cond.methodLink "FlashStore" (33 : Nat) ({ cls := "java/util/Arrays", name := "fill", desc := "([II)V" } : Jvm.MethodName)) ∈ bw := bw_in (List.mem_append_right _ (List.mem_append_left _ (List.mem_of_getElem? (i := 40) rfl))) rfl
theorem bq_1_30 : (Jvm.Cond.static ({ cls := "java/util/Arrays", name := "fill", desc := "([II)V" } : Jvm.MethodName)) ∈ bw := bw_in (List.mem_append_right _ (List.mem_append_left _ (List.mem_of_getElem? (i := 30) rfl))) rfl
theorem bq_1_3 : (Jvm.Cond.initialized "java/util/Arrays") ∈ bw := bw_in (List.mem_append_right _ (List.mem_append_left _ (List.mem_of_getElem? (i := 3) rfl))) rfl
theorem bq_1_110 : (Jvm.Cond.code ({ cls := "FlashStore", name := "take", desc := "(III)V" } : Jvm.MethodName) prog_1_method_25_code (4 : Nat) (Option.none : Option Jvm.ClassFile.FieldType)) ∈ bw := bw_in (List.mem_append_right _ (List.mem_append_left _ (List.mem_of_getElem? (i := 110) rfl))) rfl
theorem bq_1_107 : (Jvm.Cond.methodLink "FlashStore" (130 : Nat) ({ cls := "FlashStore", name := "take", desc := "(III)V" } : Jvm.MethodName)) ∈ bw := bw_in (List.mem_append_right _ (List.mem_append_left _ (List.mem_of_getElem? (i := 107) rfl))) rfl
theorem bq_1_109 : (Jvm.Cond.instanceMethod ({ cls := "FlashStore", name := "take", desc := "(III)V" } : Jvm.MethodName)) ∈ bw := bw_in (List.mem_append_right _ (List.mem_append_left _ (List.mem_of_getElem? (i := 109) rfl))) rfl
theorem bq_s_0 : (Jvm.Cond.selects "FlashStore" ({ cls := "FlashStore", name := "take", desc := "(III)V" } : Jvm.MethodName) ({ cls := "FlashStore", name := "take", desc := "(III)V" } : Jvm.MethodName)) ∈ bw := bw_in (List.mem_append_left _ (List.mem_of_getElem? (i := 0) rfl)) rfl
theorem bq_1_106 : (Jvm.Cond.code ({ cls := "FlashStore", name := "isSpoilt", desc := "(I)Z" } : Jvm.MethodName) prog_1_method_22_code (1 : Nat) (Option.some Jvm.ClassFile.FieldType.boolean)) ∈ bw := bw_in (List.mem_append_right _ (List.mem_append_left _ (List.mem_of_getElem? (i := 106) rfl))) rfl
theorem bq_1_104 : (Jvm.Cond.methodLink "FlashStore" (127 : Nat) ({ cls := "FlashStore", name := "isSpoilt", desc := "(I)Z" } : Jvm.MethodName)) ∈ bw := bw_in (List.mem_append_right _ (List.mem_append_left _ (List.mem_of_getElem? (i := 104) rfl))) rfl
theorem bq_1_105 : (Jvm.Cond.static ({ cls := "FlashStore", name := "isSpoilt", desc := "(I)Z" } : Jvm.MethodName)) ∈ bw := bw_in (List.mem_append_right _ (List.mem_append_left _ (List.mem_of_getElem? (i := 105) rfl))) rfl
theorem bq_1_71 : (Jvm.Cond.code ({ cls := "FlashStore$Flash", name := "tagAt", desc := "(I)I" } : Jvm.MethodName) prog_3_method_7_code (3 : Nat) (Option.some Jvm.ClassFile.FieldType.int)) ∈ bw := bw_in (List.mem_append_right _ (List.mem_append_left _ (List.mem_of_getElem? (i := 71) rfl))) rfl
theorem bq_1_68 : (Jvm.Cond.methodLink "FlashStore" (124 : Nat) ({ cls := "FlashStore$Flash", name := "tagAt", desc := "(I)I" } : Jvm.MethodName)) ∈ bw := bw_in (List.mem_append_right _ (List.mem_append_left _ (List.mem_of_getElem? (i := 68) rfl))) rfl
theorem bq_1_69 : (Jvm.Cond.instanceMethod ({ cls := "FlashStore$Flash", name := "tagAt", desc := "(I)I" } : Jvm.MethodName)) ∈ bw := bw_in (List.mem_append_right _ (List.mem_append_left _ (List.mem_of_getElem? (i := 69) rfl))) rfl
theorem bq_1_70 : (Jvm.Cond.selects "FlashStore$Flash" ({ cls := "FlashStore$Flash", name := "tagAt", desc := "(I)I" } : Jvm.MethodName) ({ cls := "FlashStore$Flash", name := "tagAt", desc := "(I)I" } : Jvm.MethodName)) ∈ bw := bw_in (List.mem_append_right _ (List.mem_append_left _ (List.mem_of_getElem? (i := 70) rfl))) rfl
theorem bq_1_131 : (Jvm.Cond.code ({ cls := "FlashStore", name := "countHeld", desc := "()I" } : Jvm.MethodName) prog_1_method_28_code (3 : Nat) (Option.some Jvm.ClassFile.FieldType.int)) ∈ bw := bw_in (List.mem_append_right _ (List.mem_append_left _ (List.mem_of_getElem? (i := 131) rfl))) rfl
theorem bq_1_128 : (Jvm.Cond.methodLink "FlashStore" (140 : Nat) ({ cls := "FlashStore", name := "countHeld", desc := "()I" } : Jvm.MethodName)) ∈ bw := bw_in (List.mem_append_right _ (List.mem_append_left _ (List.mem_of_getElem? (i := 128) rfl))) rfl
theorem bq_1_130 : (Jvm.Cond.instanceMethod ({ cls := "FlashStore", name := "countHeld", desc := "()I" } : Jvm.MethodName)) ∈ bw := bw_in (List.mem_append_right _ (List.mem_append_left _ (List.mem_of_getElem? (i := 130) rfl))) rfl
theorem bq_s_3 : (Jvm.Cond.selects "FlashStore" ({ cls := "FlashStore", name := "countHeld", desc := "()I" } : Jvm.MethodName) ({ cls := "FlashStore", name := "countHeld", desc := "()I" } : Jvm.MethodName)) ∈ bw := bw_in (List.mem_append_left _ (List.mem_of_getElem? (i := 3) rfl)) rfl
theorem bq_2_237 : (Jvm.Cond.code ({ cls := "FlashStoreModel", name := "out", desc := "(II)Z" } : Jvm.MethodName) prog_5_method_3_code (2 : Nat) (Option.some Jvm.ClassFile.FieldType.boolean)) ∈ bw := bw_in (List.mem_append_right _ (List.mem_append_right _ (List.mem_append_left _ (List.mem_of_getElem? (i := 237) rfl)))) rfl
theorem bq_2_235 : (Jvm.Cond.methodLink "FlashStoreModel" (46 : Nat) ({ cls := "FlashStoreModel", name := "out", desc := "(II)Z" } : Jvm.MethodName)) ∈ bw := bw_in (List.mem_append_right _ (List.mem_append_right _ (List.mem_append_left _ (List.mem_of_getElem? (i := 235) rfl)))) rfl
theorem bq_2_236 : (Jvm.Cond.static ({ cls := "FlashStoreModel", name := "out", desc := "(II)Z" } : Jvm.MethodName)) ∈ bw := bw_in (List.mem_append_right _ (List.mem_append_right _ (List.mem_append_left _ (List.mem_of_getElem? (i := 236) rfl)))) rfl
theorem bq_1_4 : (Jvm.Cond.initialized "FlashStoreModel") ∈ bw := bw_in (List.mem_append_right _ (List.mem_append_left _ (List.mem_of_getElem? (i := 4) rfl))) rfl
theorem bq_2_192 : (Jvm.Cond.fieldLink "FlashStoreModel" (33 : Nat) "FlashStoreModel" "thrown" "I") ∈ bw := bw_in (List.mem_append_right _ (List.mem_append_right _ (List.mem_append_left _ (List.mem_of_getElem? (i := 192) rfl)))) rfl
theorem bq_2_193 : (Jvm.Cond.fieldLink "FlashStoreModel" (7 : Nat) "FlashStoreModel" "remainder" "[I") ∈ bw := bw_in (List.mem_append_right _ (List.mem_append_right _ (List.mem_append_left _ (List.mem_of_getElem? (i := 193) rfl)))) rfl
theorem bq_3_10 : (Jvm.Cond.code ({ cls := "FlashStoreModel", name := "left", desc := "(I)I" } : Jvm.MethodName) prog_5_method_5_code (4 : Nat) (Option.some Jvm.ClassFile.FieldType.int)) ∈ bw := bw_in (List.mem_append_right _ (List.mem_append_right _ (List.mem_append_right _ (List.mem_of_getElem? (i := 10) rfl)))) rfl
theorem bq_3_7 : (Jvm.Cond.methodLink "FlashStoreModel" (38 : Nat) ({ cls := "FlashStoreModel", name := "left", desc := "(I)I" } : Jvm.MethodName)) ∈ bw := bw_in (List.mem_append_right _ (List.mem_append_right _ (List.mem_append_right _ (List.mem_of_getElem? (i := 7) rfl)))) rfl
theorem bq_3_9 : (Jvm.Cond.instanceMethod ({ cls := "FlashStoreModel", name := "left", desc := "(I)I" } : Jvm.MethodName)) ∈ bw := bw_in (List.mem_append_right _ (List.mem_append_right _ (List.mem_append_right _ (List.mem_of_getElem? (i := 9) rfl)))) rfl
theorem bq_s_19 : (Jvm.Cond.selects "FlashStoreModel" ({ cls := "FlashStoreModel", name := "left", desc := "(I)I" } : Jvm.MethodName) ({ cls := "FlashStoreModel", name := "left", desc := "(I)I" } : Jvm.MethodName)) ∈ bw := bw_in (List.mem_append_left _ (List.mem_of_getElem? (i := 19) rfl)) rfl
theorem bq_2_202 : (Jvm.Cond.fieldLink "FlashStoreModel" (42 : Nat) "FlashStoreModel" "wrong" "I") ∈ bw := bw_in (List.mem_append_right _ (List.mem_append_right _ (List.mem_append_left _ (List.mem_of_getElem? (i := 202) rfl)))) rfl
theorem bq_3_5 : (Jvm.Cond.code ({ cls := "FlashStoreModel", name := "codeword", desc := "(I)I" } : Jvm.MethodName) prog_5_method_6_code (2 : Nat) (Option.some Jvm.ClassFile.FieldType.int)) ∈ bw := bw_in (List.mem_append_right _ (List.mem_append_right _ (List.mem_append_right _ (List.mem_of_getElem? (i := 5) rfl)))) rfl
theorem bq_3_2 : (Jvm.Cond.methodLink "FlashStoreModel" (53 : Nat) ({ cls := "FlashStoreModel", name := "codeword", desc := "(I)I" } : Jvm.MethodName)) ∈ bw := bw_in (List.mem_append_right _ (List.mem_append_right _ (List.mem_append_right _ (List.mem_of_getElem? (i := 2) rfl)))) rfl
theorem bq_3_4 : (Jvm.Cond.instanceMethod ({ cls := "FlashStoreModel", name := "codeword", desc := "(I)I" } : Jvm.MethodName)) ∈ bw := bw_in (List.mem_append_right _ (List.mem_append_right _ (List.mem_append_right _ (List.mem_of_getElem? (i := 4) rfl)))) rfl
theorem bq_s_18 : (Jvm.Cond.selects "FlashStoreModel" ({ cls := "FlashStoreModel", name := "codeword", desc := "(I)I" } : Jvm.MethodName) ({ cls := "FlashStoreModel", name := "codeword", desc := "(I)I" } : Jvm.MethodName)) ∈ bw := bw_in (List.mem_append_left _ (List.mem_of_getElem? (i := 18) rfl)) rfl
theorem bq_3_1 : (Jvm.Cond.code ({ cls := "FlashStoreModel", name := "fail", desc := "(I)I" } : Jvm.MethodName) prog_5_method_4_code (2 : Nat) (Option.some Jvm.ClassFile.FieldType.int)) ∈ bw := bw_in (List.mem_append_right _ (List.mem_append_right _ (List.mem_append_right _ (List.mem_of_getElem? (i := 1) rfl)))) rfl
theorem bq_2_238 : (Jvm.Cond.methodLink "FlashStoreModel" (50 : Nat) ({ cls := "FlashStoreModel", name := "fail", desc := "(I)I" } : Jvm.MethodName)) ∈ bw := bw_in (List.mem_append_right _ (List.mem_append_right _ (List.mem_append_left _ (List.mem_of_getElem? (i := 238) rfl)))) rfl
theorem bq_3_0 : (Jvm.Cond.instanceMethod ({ cls := "FlashStoreModel", name := "fail", desc := "(I)I" } : Jvm.MethodName)) ∈ bw := bw_in (List.mem_append_right _ (List.mem_append_right _ (List.mem_append_right _ (List.mem_of_getElem? (i := 0) rfl)))) rfl
theorem bq_s_17 : (Jvm.Cond.selects "FlashStoreModel" ({ cls := "FlashStoreModel", name := "fail", desc := "(I)I" } : Jvm.MethodName) ({ cls := "FlashStoreModel", name := "fail", desc := "(I)I" } : Jvm.MethodName)) ∈ bw := bw_in (List.mem_append_left _ (List.mem_of_getElem? (i := 17) rfl)) rfl
theorem bq_2_201 : (Jvm.Cond.fieldLink "FlashStoreModel" (59 : Nat) "FlashStoreModel" "mended" "I") ∈ bw := bw_in (List.mem_append_right _ (List.mem_append_right _ (List.mem_append_left _ (List.mem_of_getElem? (i := 201) rfl)))) rfl
theorem bq_3_18 : (Jvm.Cond.code ({ cls := "FlashStoreModel", name := "dataOf", desc := "(I)I" } : Jvm.MethodName) prog_5_method_7_code (7 : Nat) (Option.some Jvm.ClassFile.FieldType.int)) ∈ bw := bw_in (List.mem_append_right _ (List.mem_append_right _ (List.mem_append_right _ (List.mem_of_getElem? (i := 18) rfl)))) rfl
theorem bq_3_15 : (Jvm.Cond.methodLink "FlashStoreModel" (56 : Nat) ({ cls := "FlashStoreModel", name := "dataOf", desc := "(I)I" } : Jvm.MethodName)) ∈ bw := bw_in (List.mem_append_right _ (List.mem_append_right _ (List.mem_append_right _ (List.mem_of_getElem? (i := 15) rfl)))) rfl
theorem bq_3_17 : (Jvm.Cond.instanceMethod ({ cls := "FlashStoreModel", name := "dataOf", desc := "(I)I" } : Jvm.MethodName)) ∈ bw := bw_in (List.mem_append_right _ (List.mem_append_right _ (List.mem_append_right _ (List.mem_of_getElem? (i := 17) rfl)))) rfl
theorem bq_s_20 : (Jvm.Cond.selects "FlashStoreModel" ({ cls := "FlashStoreModel", name := "dataOf", desc := "(I)I" } : Jvm.MethodName) ({ cls := "FlashStoreModel", name := "dataOf", desc := "(I)I" } : Jvm.MethodName)) ∈ bw := bw_in (List.mem_append_left _ (List.mem_of_getElem? (i := 20) rfl)) rfl
theorem bq_2_194 : (Jvm.Cond.fieldLink "FlashStoreModel" (13 : Nat) "FlashStoreModel" "flash" "[I") ∈ bw := bw_in (List.mem_append_right _ (List.mem_append_right _ (List.mem_append_left _ (List.mem_of_getElem? (i := 194) rfl)))) rfl
theorem bq_2_195 : (Jvm.Cond.fieldLink "FlashStoreModel" (16 : Nat) "FlashStoreModel" "use" "[I") ∈ bw := bw_in (List.mem_append_right _ (List.mem_append_right _ (List.mem_append_left _ (List.mem_of_getElem? (i := 195) rfl)))) rfl
theorem bq_3_34 : (Jvm.Cond.code ({ cls := "FlashStoreModel", name := "count", desc := "(II)I" } : Jvm.MethodName) prog_5_method_14_code (5 : Nat) (Option.some Jvm.ClassFile.FieldType.int)) ∈ bw := bw_in (List.mem_append_right _ (List.mem_append_right _ (List.mem_append_right _ (List.mem_of_getElem? (i := 34) rfl)))) rfl
theorem bq_3_31 : (Jvm.Cond.methodLink "FlashStoreModel" (62 : Nat) ({ cls := "FlashStoreModel", name := "count", desc := "(II)I" } : Jvm.MethodName)) ∈ bw := bw_in (List.mem_append_right _ (List.mem_append_right _ (List.mem_append_right _ (List.mem_of_getElem? (i := 31) rfl)))) rfl
theorem bq_3_33 : (Jvm.Cond.instanceMethod ({ cls := "FlashStoreModel", name := "count", desc := "(II)I" } : Jvm.MethodName)) ∈ bw := bw_in (List.mem_append_right _ (List.mem_append_right _ (List.mem_append_right _ (List.mem_of_getElem? (i := 33) rfl)))) rfl
theorem bq_s_22 : (Jvm.Cond.selects "FlashStoreModel" ({ cls := "FlashStoreModel", name := "count", desc := "(II)I" } : Jvm.MethodName) ({ cls := "FlashStoreModel", name := "count", desc := "(II)I" } : Jvm.MethodName)) ∈ bw := bw_in (List.mem_append_left _ (List.mem_of_getElem? (i := 22) rfl)) rfl
theorem bq_3_38 : (Jvm.Cond.code ({ cls := "FlashStoreModel", name := "empty", desc := "(I)Z" } : Jvm.MethodName) prog_5_method_15_code (2 : Nat) (Option.some Jvm.ClassFile.FieldType.boolean)) ∈ bw := bw_in (List.mem_append_right _ (List.mem_append_right _ (List.mem_append_right _ (List.mem_of_getElem? (i := 38) rfl)))) rfl
theorem bq_3_35 : (Jvm.Cond.methodLink "FlashStoreModel" (66 : Nat) ({ cls := "FlashStoreModel", name := "empty", desc := "(I)Z" } : Jvm.MethodName)) ∈ bw := bw_in (List.mem_append_right _ (List.mem_append_right _ (List.mem_append_right _ (List.mem_of_getElem? (i := 35) rfl)))) rfl
theorem bq_3_37 : (Jvm.Cond.instanceMethod ({ cls := "FlashStoreModel", name := "empty", desc := "(I)Z" } : Jvm.MethodName)) ∈ bw := bw_in (List.mem_append_right _ (List.mem_append_right _ (List.mem_append_right _ (List.mem_of_getElem? (i := 37) rfl)))) rfl
theorem bq_s_23 : (Jvm.Cond.selects "FlashStoreModel" ({ cls := "FlashStoreModel", name := "empty", desc := "(I)Z" } : Jvm.MethodName) ({ cls := "FlashStoreModel", name := "empty", desc := "(I)Z" } : Jvm.MethodName)) ∈ bw := bw_in (List.mem_append_left _ (List.mem_of_getElem? (i := 23) rfl)) rfl
theorem bq_2_200 : (Jvm.Cond.fieldLink "FlashStoreModel" (76 : Nat) "FlashStoreModel" "next" "I") ∈ bw := bw_in (List.mem_append_right _ (List.mem_append_right _ (List.mem_append_left _ (List.mem_of_getElem? (i := 200) rfl)))) rfl
theorem bq_2_196 : (Jvm.Cond.fieldLink "FlashStoreModel" (19 : Nat) "FlashStoreModel" "logical" "[I") ∈ bw := bw_in (List.mem_append_right _ (List.mem_append_right _ (List.mem_append_left _ (List.mem_of_getElem? (i := 196) rfl)))) rfl
theorem bq_2_197 : (Jvm.Cond.fieldLink "FlashStoreModel" (22 : Nat) "FlashStoreModel" "serial" "[I") ∈ bw := bw_in (List.mem_append_right _ (List.mem_append_right _ (List.mem_append_left _ (List.mem_of_getElem? (i := 197) rfl)))) rfl
theorem bq_3_63 : (Jvm.Cond.code ({ cls := "FlashStoreModel", name := "program", desc := "(III)V" } : Jvm.MethodName) prog_5_method_13_code (4 : Nat) (Option.none : Option Jvm.ClassFile.FieldType)) ∈ bw := bw_in (List.mem_append_right _ (List.mem_append_right _ (List.mem_append_right _ (List.mem_of_getElem? (i := 63) rfl)))) rfl
theorem bq_3_60 : (Jvm.Cond.methodLink "FlashStoreModel" (72 : Nat) ({ cls := "FlashStoreModel", name := "program", desc := "(III)V" } : Jvm.MethodName)) ∈ bw := bw_in (List.mem_append_right _ (List.mem_append_right _ (List.mem_append_right _ (List.mem_of_getElem? (i := 60) rfl)))) rfl
theorem bq_3_62 : (Jvm.Cond.instanceMethod ({ cls := "FlashStoreModel", name := "program", desc := "(III)V" } : Jvm.MethodName)) ∈ bw := bw_in (List.mem_append_right _ (List.mem_append_right _ (List.mem_append_right _ (List.mem_of_getElem? (i := 62) rfl)))) rfl
theorem bq_s_29 : (Jvm.Cond.selects "FlashStoreModel" ({ cls := "FlashStoreModel", name := "program", desc := "(III)V" } : Jvm.MethodName) ({ cls := "FlashStoreModel", name := "program", desc := "(III)V" } : Jvm.MethodName)) ∈ bw := bw_in (List.mem_append_left _ (List.mem_of_getElem? (i := 29) rfl)) rfl
theorem bq_2_199 : (Jvm.Cond.fieldLink "FlashStoreModel" (28 : Nat) "FlashStoreModel" "where" "[I") ∈ bw := bw_in (List.mem_append_right _ (List.mem_append_right _ (List.mem_append_left _ (List.mem_of_getElem? (i := 199) rfl)))) rfl
theorem bq_2_198 : (Jvm.Cond.fieldLink "FlashStoreModel" (25 : Nat) "FlashStoreModel" "wear" "[I") ∈ bw := bw_in (List.mem_append_right _ (List.mem_append_right _ (List.mem_append_left _ (List.mem_of_getElem? (i := 198) rfl)))) rfl
theorem bq_3_58 : (Jvm.Cond.code ({ cls := "FlashStoreModel", name := "put", desc := "(IIJ)V" } : Jvm.MethodName) prog_5_method_17_code (6 : Nat) (Option.none : Option Jvm.ClassFile.FieldType)) ∈ bw := bw_in (List.mem_append_right _ (List.mem_append_right _ (List.mem_append_right _ (List.mem_of_getElem? (i := 58) rfl)))) rfl
theorem bq_3_55 : (Jvm.Cond.methodLink "FlashStoreModel" (89 : Nat) ({ cls := "FlashStoreModel", name := "put", desc := "(IIJ)V" } : Jvm.MethodName)) ∈ bw := bw_in (List.mem_append_right _ (List.mem_append_right _ (List.mem_append_right _ (List.mem_of_getElem? (i := 55) rfl)))) rfl
theorem bq_3_57 : (Jvm.Cond.instanceMethod ({ cls := "FlashStoreModel", name := "put", desc := "(IIJ)V" } : Jvm.MethodName)) ∈ bw := bw_in (List.mem_append_right _ (List.mem_append_right _ (List.mem_append_right _ (List.mem_of_getElem? (i := 57) rfl)))) rfl
theorem bq_s_28 : (Jvm.Cond.selects "FlashStoreModel" ({ cls := "FlashStoreModel", name := "put", desc := "(IIJ)V" } : Jvm.MethodName) ({ cls := "FlashStoreModel", name := "put", desc := "(IIJ)V" } : Jvm.MethodName)) ∈ bw := bw_in (List.mem_append_left _ (List.mem_of_getElem? (i := 28) rfl)) rfl
theorem bq_3_54 : (Jvm.Cond.code ({ cls := "FlashStoreModel", name := "contentOf", desc := "(I)J" } : Jvm.MethodName) prog_5_method_12_code (5 : Nat) (Option.some Jvm.ClassFile.FieldType.long)) ∈ bw := bw_in (List.mem_append_right _ (List.mem_append_right _ (List.mem_append_right _ (List.mem_of_getElem? (i := 54) rfl)))) rfl
theorem bq_3_51 : (Jvm.Cond.methodLink "FlashStoreModel" (85 : Nat) ({ cls := "FlashStoreModel", name := "contentOf", desc := "(I)J" } : Jvm.MethodName)) ∈ bw := bw_in (List.mem_append_right _ (List.mem_append_right _ (List.mem_append_right _ (List.mem_of_getElem? (i := 51) rfl)))) rfl
theorem bq_3_53 : (Jvm.Cond.instanceMethod ({ cls := "FlashStoreModel", name := "contentOf", desc := "(I)J" } : Jvm.MethodName)) ∈ bw := bw_in (List.mem_append_right _ (List.mem_append_right _ (List.mem_append_right _ (List.mem_of_getElem? (i := 53) rfl)))) rfl
theorem bq_s_27 : (Jvm.Cond.selects "FlashStoreModel" ({ cls := "FlashStoreModel", name := "contentOf", desc := "(I)J" } : Jvm.MethodName) ({ cls := "FlashStoreModel", name := "contentOf", desc := "(I)J" } : Jvm.MethodName)) ∈ bw := bw_in (List.mem_append_left _ (List.mem_of_getElem? (i := 27) rfl)) rfl
theorem bq_3_50 : (Jvm.Cond.code ({ cls := "FlashStoreModel", name := "placeBut", desc := "(I)I" } : Jvm.MethodName) prog_5_method_16_code (5 : Nat) (Option.some Jvm.ClassFile.FieldType.int)) ∈ bw := bw_in (List.mem_append_right _ (List.mem_append_right _ (List.mem_append_right _ (List.mem_of_getElem? (i := 50) rfl)))) rfl
theorem bq_3_47 : (Jvm.Cond.methodLink "FlashStoreModel" (82 : Nat) ({ cls := "FlashStoreModel", name := "placeBut", desc := "(I)I" } : Jvm.MethodName)) ∈ bw := bw_in (List.mem_append_right _ (List.mem_append_right _ (List.mem_append_right _ (List.mem_of_getElem? (i := 47) rfl)))) rfl
theorem bq_3_49 : (Jvm.Cond.instanceMethod ({ cls := "FlashStoreModel", name := "placeBut", desc := "(I)I" } : Jvm.MethodName)) ∈ bw := bw_in (List.mem_append_right _ (List.mem_append_right _ (List.mem_append_right _ (List.mem_of_getElem? (i := 49) rfl)))) rfl
theorem bq_s_26 : (Jvm.Cond.selects "FlashStoreModel" ({ cls := "FlashStoreModel", name := "placeBut", desc := "(I)I" } : Jvm.MethodName) ({ cls := "FlashStoreModel", name := "placeBut", desc := "(I)I" } : Jvm.MethodName)) ∈ bw := bw_in (List.mem_append_left _ (List.mem_of_getElem? (i := 26) rfl)) rfl
theorem bq_3_46 : (Jvm.Cond.code ({ cls := "FlashStoreModel", name := "readable", desc := "(I)Z" } : Jvm.MethodName) prog_5_method_11_code (4 : Nat) (Option.some Jvm.ClassFile.FieldType.boolean)) ∈ bw := bw_in (List.mem_append_right _ (List.mem_append_right _ (List.mem_append_right _ (List.mem_of_getElem? (i := 46) rfl)))) rfl
theorem bq_3_43 : (Jvm.Cond.methodLink "FlashStoreModel" (79 : Nat) ({ cls := "FlashStoreModel", name := "readable", desc := "(I)Z" } : Jvm.MethodName)) ∈ bw := bw_in (List.mem_append_right _ (List.mem_append_right _ (List.mem_append_right _ (List.mem_of_getElem? (i := 43) rfl)))) rfl
theorem bq_3_45 : (Jvm.Cond.instanceMethod ({ cls := "FlashStoreModel", name := "readable", desc := "(I)Z" } : Jvm.MethodName)) ∈ bw := bw_in (List.mem_append_right _ (List.mem_append_right _ (List.mem_append_right _ (List.mem_of_getElem? (i := 45) rfl)))) rfl
theorem bq_s_25 : (Jvm.Cond.selects "FlashStoreModel" ({ cls := "FlashStoreModel", name := "readable", desc := "(I)Z" } : Jvm.MethodName) ({ cls := "FlashStoreModel", name := "readable", desc := "(I)Z" } : Jvm.MethodName)) ∈ bw := bw_in (List.mem_append_left _ (List.mem_of_getElem? (i := 25) rfl)) rfl
theorem bq_3_30 : (Jvm.Cond.code ({ cls := "FlashStoreModel", name := "toClean", desc := "()I" } : Jvm.MethodName) prog_5_method_19_code (6 : Nat) (Option.some Jvm.ClassFile.FieldType.int)) ∈ bw := bw_in (List.mem_append_right _ (List.mem_append_right _ (List.mem_append_right _ (List.mem_of_getElem? (i := 30) rfl)))) rfl
theorem bq_3_27 : (Jvm.Cond.methodLink "FlashStoreModel" (93 : Nat) ({ cls := "FlashStoreModel", name := "toClean", desc := "()I" } : Jvm.MethodName)) ∈ bw := bw_in (List.mem_append_right _ (List.mem_append_right _ (List.mem_append_right _ (List.mem_of_getElem? (i := 27) rfl)))) rfl
theorem bq_3_29 : (Jvm.Cond.instanceMethod ({ cls := "FlashStoreModel", name := "toClean", desc := "()I" } : Jvm.MethodName)) ∈ bw := bw_in (List.mem_append_right _ (List.mem_append_right _ (List.mem_append_right _ (List.mem_of_getElem? (i := 29) rfl)))) rfl
theorem bq_s_21 : (Jvm.Cond.selects "FlashStoreModel" ({ cls := "FlashStoreModel", name := "toClean", desc := "()I" } : Jvm.MethodName) ({ cls := "FlashStoreModel", name := "toClean", desc := "()I" } : Jvm.MethodName)) ∈ bw := bw_in (List.mem_append_left _ (List.mem_of_getElem? (i := 21) rfl)) rfl
theorem bq_3_42 : (Jvm.Cond.code ({ cls := "FlashStoreModel", name := "cleanBlock", desc := "(I)V" } : Jvm.MethodName) prog_5_method_20_code (4 : Nat) (Option.none : Option Jvm.ClassFile.FieldType)) ∈ bw := bw_in (List.mem_append_right _ (List.mem_append_right _ (List.mem_append_right _ (List.mem_of_getElem? (i := 42) rfl)))) rfl
theorem bq_3_39 : (Jvm.Cond.methodLink "FlashStoreModel" (97 : Nat) ({ cls := "FlashStoreModel", name := "cleanBlock", desc := "(I)V" } : Jvm.MethodName)) ∈ bw := bw_in (List.mem_append_right _ (List.mem_append_right _ (List.mem_append_right _ (List.mem_of_getElem? (i := 39) rfl)))) rfl
theorem bq_3_41 : (Jvm.Cond.instanceMethod ({ cls := "FlashStoreModel", name := "cleanBlock", desc := "(I)V" } : Jvm.MethodName)) ∈ bw := bw_in (List.mem_append_right _ (List.mem_append_right _ (List.mem_append_right _ (List.mem_of_getElem? (i := 41) rfl)))) rfl
theorem bq_s_24 : (Jvm.Cond.selects "FlashStoreModel" ({ cls := "FlashStoreModel", name := "cleanBlock", desc := "(I)V" } : Jvm.MethodName) ({ cls := "FlashStoreModel", name := "cleanBlock", desc := "(I)V" } : Jvm.MethodName)) ∈ bw := bw_in (List.mem_append_left _ (List.mem_of_getElem? (i := 24) rfl)) rfl
theorem bq_3_71 : (Jvm.Cond.code ({ cls := "FlashStoreModel", name := "leavesOne", desc := "(I)Z" } : Jvm.MethodName) prog_5_method_18_code (4 : Nat) (Option.some Jvm.ClassFile.FieldType.boolean)) ∈ bw := bw_in (List.mem_append_right _ (List.mem_append_right _ (List.mem_append_right _ (List.mem_of_getElem? (i := 71) rfl)))) rfl
theorem bq_3_68 : (Jvm.Cond.methodLink "FlashStoreModel" (101 : Nat) ({ cls := "FlashStoreModel", name := "leavesOne", desc := "(I)Z" } : Jvm.MethodName)) ∈ bw := bw_in (List.mem_append_right _ (List.mem_append_right _ (List.mem_append_right _ (List.mem_of_getElem? (i := 68) rfl)))) rfl
theorem bq_3_70 : (Jvm.Cond.instanceMethod ({ cls := "FlashStoreModel", name := "leavesOne", desc := "(I)Z" } : Jvm.MethodName)) ∈ bw := bw_in (List.mem_append_right _ (List.mem_append_right _ (List.mem_append_right _ (List.mem_of_getElem? (i := 70) rfl)))) rfl
theorem bq_s_30 : (Jvm.Cond.selects "FlashStoreModel" ({ cls := "FlashStoreModel", name := "leavesOne", desc := "(I)Z" } : Jvm.MethodName) ({ cls := "FlashStoreModel", name := "leavesOne", desc := "(I)Z" } : Jvm.MethodName)) ∈ bw := bw_in (List.mem_append_left _ (List.mem_of_getElem? (i := 30) rfl)) rfl
theorem bq_3_87 : (Jvm.Cond.code ({ cls := "FlashStoreModel", name := "newer", desc := "(II)Z" } : Jvm.MethodName) prog_5_method_25_code (3 : Nat) (Option.some Jvm.ClassFile.FieldType.boolean)) ∈ bw := bw_in (List.mem_append_right _ (List.mem_append_right _ (List.mem_append_right _ (List.mem_of_getElem? (i := 87) rfl)))) rfl
theorem bq_3_85 : (Jvm.Cond.methodLink "FlashStoreModel" (105 : Nat) ({ cls := "FlashStoreModel", name := "newer", desc := "(II)Z" } : Jvm.MethodName)) ∈ bw := bw_in (List.mem_append_right _ (List.mem_append_right _ (List.mem_append_right _ (List.mem_of_getElem? (i := 85) rfl)))) rfl
theorem bq_3_86 : (Jvm.Cond.static ({ cls := "FlashStoreModel", name := "newer", desc := "(II)Z" } : Jvm.MethodName)) ∈ bw := bw_in (List.mem_append_right _ (List.mem_append_right _ (List.mem_append_right _ (List.mem_of_getElem? (i := 86) rfl)))) rfl
theorem bq_3_94 : (Jvm.Cond.code ({ cls := "FlashStoreModel", name := "isPage", desc := "(II)Z" } : Jvm.MethodName) prog_5_method_27_code (2 : Nat) (Option.some Jvm.ClassFile.FieldType.boolean)) ∈ bw := bw_in (List.mem_append_right _ (List.mem_append_right _ (List.mem_append_right _ (List.mem_of_getElem? (i := 94) rfl)))) rfl
theorem bq_3_92 : (Jvm.Cond.methodLink "FlashStoreModel" (108 : Nat) ({ cls := "FlashStoreModel", name := "isPage", desc := "(II)Z" } : Jvm.MethodName)) ∈ bw := bw_in (List.mem_append_right _ (List.mem_append_right _ (List.mem_append_right _ (List.mem_of_getElem? (i := 92) rfl)))) rfl
theorem bq_3_93 : (Jvm.Cond.static ({ cls := "FlashStoreModel", name := "isPage", desc := "(II)Z" } : Jvm.MethodName)) ∈ bw := bw_in (List.mem_append_right _ (List.mem_append_right _ (List.mem_append_right _ (List.mem_of_getElem? (i := 93) rfl)))) rfl
theorem bq_1_144 : (Jvm.Cond.classLink "FlashStore" (42 : Nat) "java/lang/IllegalArgumentException") ∈ bw := bw_in (List.mem_append_right _ (List.mem_append_left _ (List.mem_of_getElem? (i := 144) rfl))) rfl
theorem bq_1_8 : (Jvm.Cond.initialized "java/lang/IllegalArgumentException") ∈ bw := bw_in (List.mem_append_right _ (List.mem_append_left _ (List.mem_of_getElem? (i := 8) rfl))) rfl
theorem bq_1_225 : (Jvm.Cond.classLink "FlashStore" (58 : Nat) "java/lang/ArithmeticException") ∈ bw := bw_in (List.mem_append_right _ (List.mem_append_left _ (List.mem_of_getElem? (i := 225) rfl))) rfl
theorem bq_1_11 : (Jvm.Cond.initialized "java/lang/ArithmeticException") ∈ bw := bw_in (List.mem_append_right _ (List.mem_append_left _ (List.mem_of_getElem? (i := 11) rfl))) rfl
theorem bq_2_57 : (Jvm.Cond.classLink "FlashStore" (83 : Nat) "java/lang/IllegalStateException") ∈ bw := bw_in (List.mem_append_right _ (List.mem_append_right _ (List.mem_append_left _ (List.mem_of_getElem? (i := 57) rfl)))) rfl
theorem bq_1_12 : (Jvm.Cond.initialized "java/lang/IllegalStateException") ∈ bw := bw_in (List.mem_append_right _ (List.mem_append_left _ (List.mem_of_getElem? (i := 12) rfl))) rfl
end
section
theorem d_U_bitCount_0 : decode b_U_bitCount 0 = .ok (.iload_n 0, 1) := by decide +kernel
theorem d_U_bitCount_1 : decode b_U_bitCount 1 = .ok (.iload_n 0, 1) := by decide +kernel
theorem d_U_bitCount_2 : decode b_U_bitCount 2 = .ok (.iconst 1, 1) := by decide +kernel
theorem d_U_bitCount_3 : decode b_U_bitCount 3 = .ok (.iushr, 1) := by decide +kernel
theorem d_U_bitCount_4 : decode b_U_bitCount 4 = .ok (.ldc_w 265, 3) := by decide +kernel
theorem d_U_bitCount_7 : decode b_U_bitCount 7 = .ok (.iand, 1) := by decide +kernel
theorem d_U_bitCount_8 : decode b_U_bitCount 8 = .ok (.isub, 1) := by decide +kernel
theorem d_U_bitCount_9 : decode b_U_bitCount 9 = .ok (.istore_n 0, 1) := by decide +kernel
theorem d_U_bitCount_10 : decode b_U_bitCount 10 = .ok (.iload_n 0, 1) := by decide +kernel
theorem d_U_bitCount_11 : decode b_U_bitCount 11 = .ok (.ldc_w 266, 3) := by decide +kernel
theorem d_U_bitCount_14 : decode b_U_bitCount 14 = .ok (.iand, 1) := by decide +kernel
theorem d_U_bitCount_15 : decode b_U_bitCount 15 = .ok (.iload_n 0, 1) := by decide +kernel
theorem d_U_bitCount_16 : decode b_U_bitCount 16 = .ok (.iconst 2, 1) := by decide +kernel
theorem d_U_bitCount_17 : decode b_U_bitCount 17 = .ok (.iushr, 1) := by decide +kernel
theorem d_U_bitCount_18 : decode b_U_bitCount 18 = .ok (.ldc_w 266, 3) := by decide +kernel
theorem d_U_bitCount_21 : decode b_U_bitCount 21 = .ok (.iand, 1) := by decide +kernel
theorem d_U_bitCount_22 : decode b_U_bitCount 22 = .ok (.iadd, 1) := by decide +kernel
theorem d_U_bitCount_23 : decode b_U_bitCount 23 = .ok (.istore_n 0, 1) := by decide +kernel
theorem d_U_bitCount_24 : decode b_U_bitCount 24 = .ok (.iload_n 0, 1) := by decide +kernel
theorem d_U_bitCount_25 : decode b_U_bitCount 25 = .ok (.iload_n 0, 1) := by decide +kernel
theorem d_U_bitCount_26 : decode b_U_bitCount 26 = .ok (.iconst 4, 1) := by decide +kernel
theorem d_U_bitCount_27 : decode b_U_bitCount 27 = .ok (.iushr, 1) := by decide +kernel
theorem d_U_bitCount_28 : decode b_U_bitCount 28 = .ok (.iadd, 1) := by decide +kernel
theorem d_U_bitCount_29 : decode b_U_bitCount 29 = .ok (.ldc_w 267, 3) := by decide +kernel
theorem d_U_bitCount_32 : decode b_U_bitCount 32 = .ok (.iand, 1) := by decide +kernel
theorem d_U_bitCount_33 : decode b_U_bitCount 33 = .ok (.istore_n 0, 1) := by decide +kernel
theorem d_U_bitCount_34 : decode b_U_bitCount 34 = .ok (.iload_n 0, 1) := by decide +kernel
theorem d_U_bitCount_35 : decode b_U_bitCount 35 = .ok (.iload_n 0, 1) := by decide +kernel
theorem d_U_bitCount_36 : decode b_U_bitCount 36 = .ok (.bipush 8, 2) := by decide +kernel
theorem d_U_bitCount_38 : decode b_U_bitCount 38 = .ok (.iushr, 1) := by decide +kernel
theorem d_U_bitCount_39 : decode b_U_bitCount 39 = .ok (.iadd, 1) := by decide +kernel
theorem d_U_bitCount_40 : decode b_U_bitCount 40 = .ok (.istore_n 0, 1) := by decide +kernel
theorem d_U_bitCount_41 : decode b_U_bitCount 41 = .ok (.iload_n 0, 1) := by decide +kernel
theorem d_U_bitCount_42 : decode b_U_bitCount 42 = .ok (.iload_n 0, 1) := by decide +kernel
theorem d_U_bitCount_43 : decode b_U_bitCount 43 = .ok (.bipush 16, 2) := by decide +kernel
theorem d_U_bitCount_45 : decode b_U_bitCount 45 = .ok (.iushr, 1) := by decide +kernel
theorem d_U_bitCount_46 : decode b_U_bitCount 46 = .ok (.iadd, 1) := by decide +kernel
theorem d_U_bitCount_47 : decode b_U_bitCount 47 = .ok (.istore_n 0, 1) := by decide +kernel
theorem d_U_bitCount_48 : decode b_U_bitCount 48 = .ok (.iload_n 0, 1) := by decide +kernel
theorem d_U_bitCount_49 : decode b_U_bitCount 49 = .ok (.bipush 63, 2) := by decide +kernel
theorem d_U_bitCount_51 : decode b_U_bitCount 51 = .ok (.iand, 1) := by decide +kernel
theorem d_U_bitCount_52 : decode b_U_bitCount 52 = .ok (.ireturn, 1) := by decide +kernel
theorem d_U_floorMod_0 : decode b_U_floorMod 0 = .ok (.iload_n 0, 1) := by decide +kernel
theorem d_U_floorMod_1 : decode b_U_floorMod 1 = .ok (.iload_n 1, 1) := by decide +kernel
theorem d_U_floorMod_2 : decode b_U_floorMod 2 = .ok (.irem, 1) := by decide +kernel
theorem d_U_floorMod_3 : decode b_U_floorMod 3 = .ok (.istore_n 2, 1) := by decide +kernel
theorem d_U_floorMod_4 : decode b_U_floorMod 4 = .ok (.iload_n 0, 1) := by decide +kernel
theorem d_U_floorMod_5 : decode b_U_floorMod 5 = .ok (.iload_n 1, 1) := by decide +kernel
theorem d_U_floorMod_6 : decode b_U_floorMod 6 = .ok (.ixor, 1) := by decide +kernel
theorem d_U_floorMod_7 : decode b_U_floorMod 7 = .ok (.ifCond .ge 11, 3) := by decide +kernel
theorem d_U_floorMod_10 : decode b_U_floorMod 10 = .ok (.iload_n 2, 1) := by decide +kernel
theorem d_U_floorMod_11 : decode b_U_floorMod 11 = .ok (.ifCond .eq 7, 3) := by decide +kernel
theorem d_U_floorMod_14 : decode b_U_floorMod 14 = .ok (.iload_n 2, 1) := by decide +kernel
theorem d_U_floorMod_15 : decode b_U_floorMod 15 = .ok (.iload_n 1, 1) := by decide +kernel
theorem d_U_floorMod_16 : decode b_U_floorMod 16 = .ok (.iadd, 1) := by decide +kernel
theorem d_U_floorMod_17 : decode b_U_floorMod 17 = .ok (.ireturn, 1) := by decide +kernel
theorem d_U_floorMod_18 : decode b_U_floorMod 18 = .ok (.iload_n 2, 1) := by decide +kernel
theorem d_U_floorMod_19 : decode b_U_floorMod 19 = .ok (.ireturn, 1) := by decide +kernel
theorem d_U_fill_0 : decode b_U_fill 0 = .ok (.iconst 0, 1) := by decide +kernel
theorem d_U_fill_1 : decode b_U_fill 1 = .ok (.istore_n 2, 1) := by decide +kernel
theorem d_U_fill_2 : decode b_U_fill 2 = .ok (.aload_n 0, 1) := by decide +kernel
theorem d_U_fill_3 : decode b_U_fill 3 = .ok (.arraylength, 1) := by decide +kernel
theorem d_U_fill_4 : decode b_U_fill 4 = .ok (.istore_n 3, 1) := by decide +kernel
theorem d_U_fill_5 : decode b_U_fill 5 = .ok (.iload_n 2, 1) := by decide +kernel
theorem d_U_fill_6 : decode b_U_fill 6 = .ok (.iload_n 3, 1) := by decide +kernel
theorem d_U_fill_7 : decode b_U_fill 7 = .ok (.if_icmp .ge 13, 3) := by decide +kernel
theorem d_U_fill_10 : decode b_U_fill 10 = .ok (.aload_n 0, 1) := by decide +kernel
theorem d_U_fill_11 : decode b_U_fill 11 = .ok (.iload_n 2, 1) := by decide +kernel
theorem d_U_fill_12 : decode b_U_fill 12 = .ok (.iload_n 1, 1) := by decide +kernel
theorem d_U_fill_13 : decode b_U_fill 13 = .ok (.iastore, 1) := by decide +kernel
theorem d_U_fill_14 : decode b_U_fill 14 = .ok (.iinc 2 1, 3) := by decide +kernel
theorem d_U_fill_17 : decode b_U_fill 17 = .ok (.goto (-12), 3) := by decide +kernel
theorem d_U_fill_20 : decode b_U_fill 20 = .ok (.return_, 1) := by decide +kernel
theorem d_C_remainder_0 : decode b_C_remainder 0 = .ok (.iload_n 0, 1) := by decide +kernel
theorem d_C_remainder_1 : decode b_C_remainder 1 = .ok (.istore_n 1, 1) := by decide +kernel
theorem d_C_remainder_2 : decode b_C_remainder 2 = .ok (.bipush 30, 2) := by decide +kernel
theorem d_C_remainder_4 : decode b_C_remainder 4 = .ok (.istore_n 2, 1) := by decide +kernel
theorem d_C_remainder_5 : decode b_C_remainder 5 = .ok (.iload_n 2, 1) := by decide +kernel
theorem d_C_remainder_6 : decode b_C_remainder 6 = .ok (.bipush 15, 2) := by decide +kernel
theorem d_C_remainder_8 : decode b_C_remainder 8 = .ok (.if_icmp .lt 27, 3) := by decide +kernel
theorem d_C_remainder_11 : decode b_C_remainder 11 = .ok (.iload_n 1, 1) := by decide +kernel
theorem d_C_remainder_12 : decode b_C_remainder 12 = .ok (.iconst 1, 1) := by decide +kernel
theorem d_C_remainder_13 : decode b_C_remainder 13 = .ok (.iload_n 2, 1) := by decide +kernel
theorem d_C_remainder_14 : decode b_C_remainder 14 = .ok (.ishl, 1) := by decide +kernel
theorem d_C_remainder_15 : decode b_C_remainder 15 = .ok (.iand, 1) := by decide +kernel
theorem d_C_remainder_16 : decode b_C_remainder 16 = .ok (.ifCond .eq 13, 3) := by decide +kernel
theorem d_C_remainder_19 : decode b_C_remainder 19 = .ok (.iload_n 1, 1) := by decide +kernel
theorem d_C_remainder_20 : decode b_C_remainder 20 = .ok (.ldc 30, 2) := by decide +kernel
theorem d_C_remainder_22 : decode b_C_remainder 22 = .ok (.iload_n 2, 1) := by decide +kernel
theorem d_C_remainder_23 : decode b_C_remainder 23 = .ok (.bipush 15, 2) := by decide +kernel
theorem d_C_remainder_25 : decode b_C_remainder 25 = .ok (.isub, 1) := by decide +kernel
theorem d_C_remainder_26 : decode b_C_remainder 26 = .ok (.ishl, 1) := by decide +kernel
theorem d_C_remainder_27 : decode b_C_remainder 27 = .ok (.ixor, 1) := by decide +kernel
theorem d_C_remainder_28 : decode b_C_remainder 28 = .ok (.istore_n 1, 1) := by decide +kernel
theorem d_C_remainder_29 : decode b_C_remainder 29 = .ok (.iinc 2 (-1), 3) := by decide +kernel
theorem d_C_remainder_32 : decode b_C_remainder 32 = .ok (.goto (-27), 3) := by decide +kernel
theorem d_C_remainder_35 : decode b_C_remainder 35 = .ok (.iload_n 1, 1) := by decide +kernel
theorem d_C_remainder_36 : decode b_C_remainder 36 = .ok (.ireturn, 1) := by decide +kernel
theorem d_C_codewordOf_0 : decode b_C_codewordOf 0 = .ok (.iload_n 0, 1) := by decide +kernel
theorem d_C_codewordOf_1 : decode b_C_codewordOf 1 = .ok (.bipush 15, 2) := by decide +kernel
theorem d_C_codewordOf_3 : decode b_C_codewordOf 3 = .ok (.ishl, 1) := by decide +kernel
theorem d_C_codewordOf_4 : decode b_C_codewordOf 4 = .ok (.istore_n 1, 1) := by decide +kernel
theorem d_C_codewordOf_5 : decode b_C_codewordOf 5 = .ok (.iload_n 1, 1) := by decide +kernel
theorem d_C_codewordOf_6 : decode b_C_codewordOf 6 = .ok (.iload_n 1, 1) := by decide +kernel
theorem d_C_codewordOf_7 : decode b_C_codewordOf 7 = .ok (.invokestatic 9, 3) := by decide +kernel
theorem d_C_codewordOf_10 : decode b_C_codewordOf 10 = .ok (.ior, 1) := by decide +kernel
theorem d_C_codewordOf_11 : decode b_C_codewordOf 11 = .ok (.ireturn, 1) := by decide +kernel
theorem d_C_dataOf_0 : decode b_C_dataOf 0 = .ok (.iload_n 0, 1) := by decide +kernel
theorem d_C_dataOf_1 : decode b_C_dataOf 1 = .ok (.bipush 15, 2) := by decide +kernel
theorem d_C_dataOf_3 : decode b_C_dataOf 3 = .ok (.iushr, 1) := by decide +kernel
theorem d_C_dataOf_4 : decode b_C_dataOf 4 = .ok (.ireturn, 1) := by decide +kernel
theorem d_C_timesX_0 : decode b_C_timesX 0 = .ok (.iload_n 0, 1) := by decide +kernel
theorem d_C_timesX_1 : decode b_C_timesX 1 = .ok (.iconst 1, 1) := by decide +kernel
theorem d_C_timesX_2 : decode b_C_timesX 2 = .ok (.ishl, 1) := by decide +kernel
theorem d_C_timesX_3 : decode b_C_timesX 3 = .ok (.istore_n 1, 1) := by decide +kernel
theorem d_C_timesX_4 : decode b_C_timesX 4 = .ok (.iload_n 1, 1) := by decide +kernel
theorem d_C_timesX_5 : decode b_C_timesX 5 = .ok (.ldc 29, 2) := by decide +kernel
theorem d_C_timesX_7 : decode b_C_timesX 7 = .ok (.iand, 1) := by decide +kernel
theorem d_C_timesX_8 : decode b_C_timesX 8 = .ok (.ifCond .eq 10, 3) := by decide +kernel
theorem d_C_timesX_11 : decode b_C_timesX 11 = .ok (.iload_n 1, 1) := by decide +kernel
theorem d_C_timesX_12 : decode b_C_timesX 12 = .ok (.ldc 30, 2) := by decide +kernel
theorem d_C_timesX_14 : decode b_C_timesX 14 = .ok (.ixor, 1) := by decide +kernel
theorem d_C_timesX_15 : decode b_C_timesX 15 = .ok (.goto 4, 3) := by decide +kernel
theorem d_C_timesX_18 : decode b_C_timesX 18 = .ok (.iload_n 1, 1) := by decide +kernel
theorem d_C_timesX_19 : decode b_C_timesX 19 = .ok (.ireturn, 1) := by decide +kernel
theorem d_C_turned_0 : decode b_C_turned 0 = .ok (.iload_n 0, 1) := by decide +kernel
theorem d_C_turned_1 : decode b_C_turned 1 = .ok (.iload_n 1, 1) := by decide +kernel
theorem d_C_turned_2 : decode b_C_turned 2 = .ok (.ishl, 1) := by decide +kernel
theorem d_C_turned_3 : decode b_C_turned 3 = .ok (.iload_n 0, 1) := by decide +kernel
theorem d_C_turned_4 : decode b_C_turned 4 = .ok (.bipush 31, 2) := by decide +kernel
theorem d_C_turned_6 : decode b_C_turned 6 = .ok (.iload_n 1, 1) := by decide +kernel
theorem d_C_turned_7 : decode b_C_turned 7 = .ok (.isub, 1) := by decide +kernel
theorem d_C_turned_8 : decode b_C_turned 8 = .ok (.iushr, 1) := by decide +kernel
theorem d_C_turned_9 : decode b_C_turned 9 = .ok (.ior, 1) := by decide +kernel
theorem d_C_turned_10 : decode b_C_turned 10 = .ok (.ldc 28, 2) := by decide +kernel
theorem d_C_turned_12 : decode b_C_turned 12 = .ok (.iand, 1) := by decide +kernel
theorem d_C_turned_13 : decode b_C_turned 13 = .ok (.ireturn, 1) := by decide +kernel
theorem d_C_mendOneInData_0 : decode b_C_mendOneInData 0 = .ok (.iload_n 0, 1) := by decide +kernel
theorem d_C_mendOneInData_1 : decode b_C_mendOneInData 1 = .ok (.invokestatic 9, 3) := by decide +kernel
theorem d_C_mendOneInData_4 : decode b_C_mendOneInData 4 = .ok (.istore_n 1, 1) := by decide +kernel
theorem d_C_mendOneInData_5 : decode b_C_mendOneInData 5 = .ok (.iload_n 1, 1) := by decide +kernel
theorem d_C_mendOneInData_6 : decode b_C_mendOneInData 6 = .ok (.invokestatic 20, 3) := by decide +kernel
theorem d_C_mendOneInData_9 : decode b_C_mendOneInData 9 = .ok (.iconst 3, 1) := by decide +kernel
theorem d_C_mendOneInData_10 : decode b_C_mendOneInData 10 = .ok (.if_icmp .gt 7, 3) := by decide +kernel
theorem d_C_mendOneInData_13 : decode b_C_mendOneInData 13 = .ok (.iload_n 0, 1) := by decide +kernel
theorem d_C_mendOneInData_14 : decode b_C_mendOneInData 14 = .ok (.iload_n 1, 1) := by decide +kernel
theorem d_C_mendOneInData_15 : decode b_C_mendOneInData 15 = .ok (.ixor, 1) := by decide +kernel
theorem d_C_mendOneInData_16 : decode b_C_mendOneInData 16 = .ok (.ireturn, 1) := by decide +kernel
theorem d_C_mendOneInData_17 : decode b_C_mendOneInData 17 = .ok (.sipush 4015, 3) := by decide +kernel
theorem d_C_mendOneInData_20 : decode b_C_mendOneInData 20 = .ok (.istore_n 2, 1) := by decide +kernel
theorem d_C_mendOneInData_21 : decode b_C_mendOneInData 21 = .ok (.bipush 15, 2) := by decide +kernel
theorem d_C_mendOneInData_23 : decode b_C_mendOneInData 23 = .ok (.istore_n 3, 1) := by decide +kernel
theorem d_C_mendOneInData_24 : decode b_C_mendOneInData 24 = .ok (.iload_n 3, 1) := by decide +kernel
theorem d_C_mendOneInData_25 : decode b_C_mendOneInData 25 = .ok (.bipush 31, 2) := by decide +kernel
theorem d_C_mendOneInData_27 : decode b_C_mendOneInData 27 = .ok (.if_icmp .ge 37, 3) := by decide +kernel
theorem d_C_mendOneInData_30 : decode b_C_mendOneInData 30 = .ok (.iload_n 1, 1) := by decide +kernel
theorem d_C_mendOneInData_31 : decode b_C_mendOneInData 31 = .ok (.iload_n 2, 1) := by decide +kernel
theorem d_C_mendOneInData_32 : decode b_C_mendOneInData 32 = .ok (.ixor, 1) := by decide +kernel
theorem d_C_mendOneInData_33 : decode b_C_mendOneInData 33 = .ok (.istore 4, 2) := by decide +kernel
theorem d_C_mendOneInData_35 : decode b_C_mendOneInData 35 = .ok (.iload 4, 2) := by decide +kernel
theorem d_C_mendOneInData_37 : decode b_C_mendOneInData 37 = .ok (.invokestatic 20, 3) := by decide +kernel
theorem d_C_mendOneInData_40 : decode b_C_mendOneInData 40 = .ok (.iconst 3, 1) := by decide +kernel
theorem d_C_mendOneInData_41 : decode b_C_mendOneInData 41 = .ok (.if_icmp .ge 12, 3) := by decide +kernel
theorem d_C_mendOneInData_44 : decode b_C_mendOneInData 44 = .ok (.iload_n 0, 1) := by decide +kernel
theorem d_C_mendOneInData_45 : decode b_C_mendOneInData 45 = .ok (.iload 4, 2) := by decide +kernel
theorem d_C_mendOneInData_47 : decode b_C_mendOneInData 47 = .ok (.ixor, 1) := by decide +kernel
theorem d_C_mendOneInData_48 : decode b_C_mendOneInData 48 = .ok (.iconst 1, 1) := by decide +kernel
theorem d_C_mendOneInData_49 : decode b_C_mendOneInData 49 = .ok (.iload_n 3, 1) := by decide +kernel
theorem d_C_mendOneInData_50 : decode b_C_mendOneInData 50 = .ok (.ishl, 1) := by decide +kernel
theorem d_C_mendOneInData_51 : decode b_C_mendOneInData 51 = .ok (.ixor, 1) := by decide +kernel
theorem d_C_mendOneInData_52 : decode b_C_mendOneInData 52 = .ok (.ireturn, 1) := by decide +kernel
theorem d_C_mendOneInData_53 : decode b_C_mendOneInData 53 = .ok (.iload_n 2, 1) := by decide +kernel
theorem d_C_mendOneInData_54 : decode b_C_mendOneInData 54 = .ok (.invokestatic 25, 3) := by decide +kernel
theorem d_C_mendOneInData_57 : decode b_C_mendOneInData 57 = .ok (.istore_n 2, 1) := by decide +kernel
theorem d_C_mendOneInData_58 : decode b_C_mendOneInData 58 = .ok (.iinc 3 1, 3) := by decide +kernel
theorem d_C_mendOneInData_61 : decode b_C_mendOneInData 61 = .ok (.goto (-37), 3) := by decide +kernel
theorem d_C_mendOneInData_64 : decode b_C_mendOneInData 64 = .ok (.iconst (-1), 1) := by decide +kernel
theorem d_C_mendOneInData_65 : decode b_C_mendOneInData 65 = .ok (.ireturn, 1) := by decide +kernel
theorem d_C_mend_0 : decode b_C_mend 0 = .ok (.iconst 0, 1) := by decide +kernel
theorem d_C_mend_1 : decode b_C_mend 1 = .ok (.istore_n 1, 1) := by decide +kernel
theorem d_C_mend_2 : decode b_C_mend 2 = .ok (.iload_n 1, 1) := by decide +kernel
theorem d_C_mend_3 : decode b_C_mend 3 = .ok (.bipush 31, 2) := by decide +kernel
theorem d_C_mend_5 : decode b_C_mend 5 = .ok (.if_icmp .ge 32, 3) := by decide +kernel
theorem d_C_mend_8 : decode b_C_mend 8 = .ok (.iload_n 0, 1) := by decide +kernel
theorem d_C_mend_9 : decode b_C_mend 9 = .ok (.iload_n 1, 1) := by decide +kernel
theorem d_C_mend_10 : decode b_C_mend 10 = .ok (.invokestatic 13, 3) := by decide +kernel
theorem d_C_mend_13 : decode b_C_mend 13 = .ok (.invokestatic 17, 3) := by decide +kernel
theorem d_C_mend_16 : decode b_C_mend 16 = .ok (.istore_n 2, 1) := by decide +kernel
theorem d_C_mend_17 : decode b_C_mend 17 = .ok (.iload_n 2, 1) := by decide +kernel
theorem d_C_mend_18 : decode b_C_mend 18 = .ok (.iconst (-1), 1) := by decide +kernel
theorem d_C_mend_19 : decode b_C_mend 19 = .ok (.if_icmp .eq 12, 3) := by decide +kernel
theorem d_C_mend_22 : decode b_C_mend 22 = .ok (.iload_n 2, 1) := by decide +kernel
theorem d_C_mend_23 : decode b_C_mend 23 = .ok (.bipush 31, 2) := by decide +kernel
theorem d_C_mend_25 : decode b_C_mend 25 = .ok (.iload_n 1, 1) := by decide +kernel
theorem d_C_mend_26 : decode b_C_mend 26 = .ok (.isub, 1) := by decide +kernel
theorem d_C_mend_27 : decode b_C_mend 27 = .ok (.invokestatic 13, 3) := by decide +kernel
theorem d_C_mend_30 : decode b_C_mend 30 = .ok (.ireturn, 1) := by decide +kernel
theorem d_C_mend_31 : decode b_C_mend 31 = .ok (.iinc 1 5, 3) := by decide +kernel
theorem d_C_mend_34 : decode b_C_mend 34 = .ok (.goto (-32), 3) := by decide +kernel
theorem d_C_mend_37 : decode b_C_mend 37 = .ok (.iconst (-1), 1) := by decide +kernel
theorem d_C_mend_38 : decode b_C_mend 38 = .ok (.ireturn, 1) := by decide +kernel
theorem d_M_wordAt_0 : decode b_M_wordAt 0 = .ok (.aload_n 0, 1) := by decide +kernel
theorem d_M_wordAt_1 : decode b_M_wordAt 1 = .ok (.getfield 11, 3) := by decide +kernel
theorem d_M_wordAt_4 : decode b_M_wordAt 4 = .ok (.iload_n 1, 1) := by decide +kernel
theorem d_M_wordAt_5 : decode b_M_wordAt 5 = .ok (.iconst 5, 1) := by decide +kernel
theorem d_M_wordAt_6 : decode b_M_wordAt 6 = .ok (.imul, 1) := by decide +kernel
theorem d_M_wordAt_7 : decode b_M_wordAt 7 = .ok (.iload_n 2, 1) := by decide +kernel
theorem d_M_wordAt_8 : decode b_M_wordAt 8 = .ok (.iadd, 1) := by decide +kernel
theorem d_M_wordAt_9 : decode b_M_wordAt 9 = .ok (.iaload, 1) := by decide +kernel
theorem d_M_wordAt_10 : decode b_M_wordAt 10 = .ok (.ireturn, 1) := by decide +kernel
theorem d_M_turnOver_0 : decode b_M_turnOver 0 = .ok (.aload_n 0, 1) := by decide +kernel
theorem d_M_turnOver_1 : decode b_M_turnOver 1 = .ok (.getfield 11, 3) := by decide +kernel
theorem d_M_turnOver_4 : decode b_M_turnOver 4 = .ok (.iload_n 1, 1) := by decide +kernel
theorem d_M_turnOver_5 : decode b_M_turnOver 5 = .ok (.iconst 5, 1) := by decide +kernel
theorem d_M_turnOver_6 : decode b_M_turnOver 6 = .ok (.imul, 1) := by decide +kernel
theorem d_M_turnOver_7 : decode b_M_turnOver 7 = .ok (.iload_n 2, 1) := by decide +kernel
theorem d_M_turnOver_8 : decode b_M_turnOver 8 = .ok (.iadd, 1) := by decide +kernel
theorem d_M_turnOver_9 : decode b_M_turnOver 9 = .ok (.dup2, 1) := by decide +kernel
theorem d_M_turnOver_10 : decode b_M_turnOver 10 = .ok (.iaload, 1) := by decide +kernel
theorem d_M_turnOver_11 : decode b_M_turnOver 11 = .ok (.iload_n 3, 1) := by decide +kernel
theorem d_M_turnOver_12 : decode b_M_turnOver 12 = .ok (.ixor, 1) := by decide +kernel
theorem d_M_turnOver_13 : decode b_M_turnOver 13 = .ok (.iastore, 1) := by decide +kernel
theorem d_M_turnOver_14 : decode b_M_turnOver 14 = .ok (.return_, 1) := by decide +kernel
theorem d_M_program_0 : decode b_M_program 0 = .ok (.iload_n 1, 1) := by decide +kernel
theorem d_M_program_1 : decode b_M_program 1 = .ok (.iconst 5, 1) := by decide +kernel
theorem d_M_program_2 : decode b_M_program 2 = .ok (.imul, 1) := by decide +kernel
theorem d_M_program_3 : decode b_M_program 3 = .ok (.istore 5, 2) := by decide +kernel
theorem d_M_program_5 : decode b_M_program 5 = .ok (.iconst 0, 1) := by decide +kernel
theorem d_M_program_6 : decode b_M_program 6 = .ok (.istore 6, 2) := by decide +kernel
theorem d_M_program_8 : decode b_M_program 8 = .ok (.iload 6, 2) := by decide +kernel
theorem d_M_program_10 : decode b_M_program 10 = .ok (.iconst 4, 1) := by decide +kernel
theorem d_M_program_11 : decode b_M_program 11 = .ok (.if_icmp .ge 40, 3) := by decide +kernel
theorem d_M_program_14 : decode b_M_program 14 = .ok (.lload_n 2, 1) := by decide +kernel
theorem d_M_program_15 : decode b_M_program 15 = .ok (.iload 6, 2) := by decide +kernel
theorem d_M_program_17 : decode b_M_program 17 = .ok (.bipush 16, 2) := by decide +kernel
theorem d_M_program_19 : decode b_M_program 19 = .ok (.imul, 1) := by decide +kernel
theorem d_M_program_20 : decode b_M_program 20 = .ok (.lushr, 1) := by decide +kernel
theorem d_M_program_21 : decode b_M_program 21 = .ok (.l2i, 1) := by decide +kernel
theorem d_M_program_22 : decode b_M_program 22 = .ok (.ldc 27, 2) := by decide +kernel
theorem d_M_program_24 : decode b_M_program 24 = .ok (.iand, 1) := by decide +kernel
theorem d_M_program_25 : decode b_M_program 25 = .ok (.istore 7, 2) := by decide +kernel
theorem d_M_program_27 : decode b_M_program 27 = .ok (.aload_n 0, 1) := by decide +kernel
theorem d_M_program_28 : decode b_M_program 28 = .ok (.getfield 11, 3) := by decide +kernel
theorem d_M_program_31 : decode b_M_program 31 = .ok (.iload 5, 2) := by decide +kernel
theorem d_M_program_33 : decode b_M_program 33 = .ok (.iload 6, 2) := by decide +kernel
theorem d_M_program_35 : decode b_M_program 35 = .ok (.iadd, 1) := by decide +kernel
theorem d_M_program_36 : decode b_M_program 36 = .ok (.dup2, 1) := by decide +kernel
theorem d_M_program_37 : decode b_M_program 37 = .ok (.iaload, 1) := by decide +kernel
theorem d_M_program_38 : decode b_M_program 38 = .ok (.iload 7, 2) := by decide +kernel
theorem d_M_program_40 : decode b_M_program 40 = .ok (.invokestatic 28, 3) := by decide +kernel
theorem d_M_program_43 : decode b_M_program 43 = .ok (.iand, 1) := by decide +kernel
theorem d_M_program_44 : decode b_M_program 44 = .ok (.iastore, 1) := by decide +kernel
theorem d_M_program_45 : decode b_M_program 45 = .ok (.iinc 6 1, 3) := by decide +kernel
theorem d_M_program_48 : decode b_M_program 48 = .ok (.goto (-40), 3) := by decide +kernel
theorem d_M_program_51 : decode b_M_program 51 = .ok (.aload_n 0, 1) := by decide +kernel
theorem d_M_program_52 : decode b_M_program 52 = .ok (.getfield 11, 3) := by decide +kernel
theorem d_M_program_55 : decode b_M_program 55 = .ok (.iload 5, 2) := by decide +kernel
theorem d_M_program_57 : decode b_M_program 57 = .ok (.iconst 4, 1) := by decide +kernel
theorem d_M_program_58 : decode b_M_program 58 = .ok (.iadd, 1) := by decide +kernel
theorem d_M_program_59 : decode b_M_program 59 = .ok (.dup2, 1) := by decide +kernel
theorem d_M_program_60 : decode b_M_program 60 = .ok (.iaload, 1) := by decide +kernel
theorem d_M_program_61 : decode b_M_program 61 = .ok (.iload 4, 2) := by decide +kernel
theorem d_M_program_63 : decode b_M_program 63 = .ok (.invokestatic 28, 3) := by decide +kernel
theorem d_M_program_66 : decode b_M_program 66 = .ok (.iand, 1) := by decide +kernel
theorem d_M_program_67 : decode b_M_program 67 = .ok (.iastore, 1) := by decide +kernel
theorem d_M_program_68 : decode b_M_program 68 = .ok (.return_, 1) := by decide +kernel
theorem d_M_erase_0 : decode b_M_erase 0 = .ok (.iload_n 1, 1) := by decide +kernel
theorem d_M_erase_1 : decode b_M_erase 1 = .ok (.iconst 0, 1) := by decide +kernel
theorem d_M_erase_2 : decode b_M_erase 2 = .ok (.invokestatic 32, 3) := by decide +kernel
theorem d_M_erase_5 : decode b_M_erase 5 = .ok (.iconst 5, 1) := by decide +kernel
theorem d_M_erase_6 : decode b_M_erase 6 = .ok (.imul, 1) := by decide +kernel
theorem d_M_erase_7 : decode b_M_erase 7 = .ok (.istore_n 2, 1) := by decide +kernel
theorem d_M_erase_8 : decode b_M_erase 8 = .ok (.iconst 0, 1) := by decide +kernel
theorem d_M_erase_9 : decode b_M_erase 9 = .ok (.istore_n 3, 1) := by decide +kernel
theorem d_M_erase_10 : decode b_M_erase 10 = .ok (.iload_n 3, 1) := by decide +kernel
theorem d_M_erase_11 : decode b_M_erase 11 = .ok (.bipush 20, 2) := by decide +kernel
theorem d_M_erase_13 : decode b_M_erase 13 = .ok (.if_icmp .ge 19, 3) := by decide +kernel
theorem d_M_erase_16 : decode b_M_erase 16 = .ok (.aload_n 0, 1) := by decide +kernel
theorem d_M_erase_17 : decode b_M_erase 17 = .ok (.getfield 11, 3) := by decide +kernel
theorem d_M_erase_20 : decode b_M_erase 20 = .ok (.iload_n 2, 1) := by decide +kernel
theorem d_M_erase_21 : decode b_M_erase 21 = .ok (.iload_n 3, 1) := by decide +kernel
theorem d_M_erase_22 : decode b_M_erase 22 = .ok (.iadd, 1) := by decide +kernel
theorem d_M_erase_23 : decode b_M_erase 23 = .ok (.ldc 20, 2) := by decide +kernel
theorem d_M_erase_25 : decode b_M_erase 25 = .ok (.iastore, 1) := by decide +kernel
theorem d_M_erase_26 : decode b_M_erase 26 = .ok (.iinc 3 1, 3) := by decide +kernel
theorem d_M_erase_29 : decode b_M_erase 29 = .ok (.goto (-19), 3) := by decide +kernel
theorem d_M_erase_32 : decode b_M_erase 32 = .ok (.aload_n 0, 1) := by decide +kernel
theorem d_M_erase_33 : decode b_M_erase 33 = .ok (.getfield 15, 3) := by decide +kernel
theorem d_M_erase_36 : decode b_M_erase 36 = .ok (.iload_n 1, 1) := by decide +kernel
theorem d_M_erase_37 : decode b_M_erase 37 = .ok (.dup2, 1) := by decide +kernel
theorem d_M_erase_38 : decode b_M_erase 38 = .ok (.iaload, 1) := by decide +kernel
theorem d_M_erase_39 : decode b_M_erase 39 = .ok (.iconst 1, 1) := by decide +kernel
theorem d_M_erase_40 : decode b_M_erase 40 = .ok (.iadd, 1) := by decide +kernel
theorem d_M_erase_41 : decode b_M_erase 41 = .ok (.iastore, 1) := by decide +kernel
theorem d_M_erase_42 : decode b_M_erase 42 = .ok (.return_, 1) := by decide +kernel
theorem d_M_erasuresOf_0 : decode b_M_erasuresOf 0 = .ok (.aload_n 0, 1) := by decide +kernel
theorem d_M_erasuresOf_1 : decode b_M_erasuresOf 1 = .ok (.getfield 15, 3) := by decide +kernel
theorem d_M_erasuresOf_4 : decode b_M_erasuresOf 4 = .ok (.iload_n 1, 1) := by decide +kernel
theorem d_M_erasuresOf_5 : decode b_M_erasuresOf 5 = .ok (.iaload, 1) := by decide +kernel
theorem d_M_erasuresOf_6 : decode b_M_erasuresOf 6 = .ok (.ireturn, 1) := by decide +kernel
theorem d_M_tagAt_0 : decode b_M_tagAt 0 = .ok (.aload_n 0, 1) := by decide +kernel
theorem d_M_tagAt_1 : decode b_M_tagAt 1 = .ok (.iload_n 1, 1) := by decide +kernel
theorem d_M_tagAt_2 : decode b_M_tagAt 2 = .ok (.iconst 4, 1) := by decide +kernel
theorem d_M_tagAt_3 : decode b_M_tagAt 3 = .ok (.invokevirtual 36, 3) := by decide +kernel
theorem d_M_tagAt_6 : decode b_M_tagAt 6 = .ok (.invokestatic 39, 3) := by decide +kernel
theorem d_M_tagAt_9 : decode b_M_tagAt 9 = .ok (.istore_n 2, 1) := by decide +kernel
theorem d_M_tagAt_10 : decode b_M_tagAt 10 = .ok (.iload_n 2, 1) := by decide +kernel
theorem d_M_tagAt_11 : decode b_M_tagAt 11 = .ok (.iconst (-1), 1) := by decide +kernel
theorem d_M_tagAt_12 : decode b_M_tagAt 12 = .ok (.if_icmp .ne 7, 3) := by decide +kernel
theorem d_M_tagAt_15 : decode b_M_tagAt 15 = .ok (.iconst (-1), 1) := by decide +kernel
theorem d_M_tagAt_16 : decode b_M_tagAt 16 = .ok (.goto 7, 3) := by decide +kernel
theorem d_M_tagAt_19 : decode b_M_tagAt 19 = .ok (.iload_n 2, 1) := by decide +kernel
theorem d_M_tagAt_20 : decode b_M_tagAt 20 = .ok (.invokestatic 42, 3) := by decide +kernel
theorem d_M_tagAt_23 : decode b_M_tagAt 23 = .ok (.ireturn, 1) := by decide +kernel
theorem d_M_isReadable_0 : decode b_M_isReadable 0 = .ok (.iconst 0, 1) := by decide +kernel
theorem d_M_isReadable_1 : decode b_M_isReadable 1 = .ok (.istore_n 2, 1) := by decide +kernel
theorem d_M_isReadable_2 : decode b_M_isReadable 2 = .ok (.iload_n 2, 1) := by decide +kernel
theorem d_M_isReadable_3 : decode b_M_isReadable 3 = .ok (.iconst 4, 1) := by decide +kernel
theorem d_M_isReadable_4 : decode b_M_isReadable 4 = .ok (.if_icmp .ge 24, 3) := by decide +kernel
theorem d_M_isReadable_7 : decode b_M_isReadable 7 = .ok (.aload_n 0, 1) := by decide +kernel
theorem d_M_isReadable_8 : decode b_M_isReadable 8 = .ok (.iload_n 1, 1) := by decide +kernel
theorem d_M_isReadable_9 : decode b_M_isReadable 9 = .ok (.iload_n 2, 1) := by decide +kernel
theorem d_M_isReadable_10 : decode b_M_isReadable 10 = .ok (.invokevirtual 36, 3) := by decide +kernel
theorem d_M_isReadable_13 : decode b_M_isReadable 13 = .ok (.invokestatic 39, 3) := by decide +kernel
theorem d_M_isReadable_16 : decode b_M_isReadable 16 = .ok (.iconst (-1), 1) := by decide +kernel
theorem d_M_isReadable_17 : decode b_M_isReadable 17 = .ok (.if_icmp .ne 5, 3) := by decide +kernel
theorem d_M_isReadable_20 : decode b_M_isReadable 20 = .ok (.iconst 0, 1) := by decide +kernel
theorem d_M_isReadable_21 : decode b_M_isReadable 21 = .ok (.ireturn, 1) := by decide +kernel
theorem d_M_isReadable_22 : decode b_M_isReadable 22 = .ok (.iinc 2 1, 3) := by decide +kernel
theorem d_M_isReadable_25 : decode b_M_isReadable 25 = .ok (.goto (-23), 3) := by decide +kernel
theorem d_M_isReadable_28 : decode b_M_isReadable 28 = .ok (.iconst 1, 1) := by decide +kernel
theorem d_M_isReadable_29 : decode b_M_isReadable 29 = .ok (.ireturn, 1) := by decide +kernel
theorem d_M_contentAt_0 : decode b_M_contentAt 0 = .ok (.lconst 0, 1) := by decide +kernel
theorem d_M_contentAt_1 : decode b_M_contentAt 1 = .ok (.lstore_n 2, 1) := by decide +kernel
theorem d_M_contentAt_2 : decode b_M_contentAt 2 = .ok (.iconst 0, 1) := by decide +kernel
theorem d_M_contentAt_3 : decode b_M_contentAt 3 = .ok (.istore 4, 2) := by decide +kernel
theorem d_M_contentAt_5 : decode b_M_contentAt 5 = .ok (.iload 4, 2) := by decide +kernel
theorem d_M_contentAt_7 : decode b_M_contentAt 7 = .ok (.iconst 4, 1) := by decide +kernel
theorem d_M_contentAt_8 : decode b_M_contentAt 8 = .ok (.if_icmp .ge 36, 3) := by decide +kernel
theorem d_M_contentAt_11 : decode b_M_contentAt 11 = .ok (.aload_n 0, 1) := by decide +kernel
theorem d_M_contentAt_12 : decode b_M_contentAt 12 = .ok (.iload_n 1, 1) := by decide +kernel
theorem d_M_contentAt_13 : decode b_M_contentAt 13 = .ok (.iload 4, 2) := by decide +kernel
theorem d_M_contentAt_15 : decode b_M_contentAt 15 = .ok (.invokevirtual 36, 3) := by decide +kernel
theorem d_M_contentAt_18 : decode b_M_contentAt 18 = .ok (.invokestatic 39, 3) := by decide +kernel
theorem d_M_contentAt_21 : decode b_M_contentAt 21 = .ok (.invokestatic 42, 3) := by decide +kernel
theorem d_M_contentAt_24 : decode b_M_contentAt 24 = .ok (.i2l, 1) := by decide +kernel
theorem d_M_contentAt_25 : decode b_M_contentAt 25 = .ok (.lstore 5, 2) := by decide +kernel
theorem d_M_contentAt_27 : decode b_M_contentAt 27 = .ok (.lload_n 2, 1) := by decide +kernel
theorem d_M_contentAt_28 : decode b_M_contentAt 28 = .ok (.lload 5, 2) := by decide +kernel
theorem d_M_contentAt_30 : decode b_M_contentAt 30 = .ok (.iload 4, 2) := by decide +kernel
theorem d_M_contentAt_32 : decode b_M_contentAt 32 = .ok (.bipush 16, 2) := by decide +kernel
theorem d_M_contentAt_34 : decode b_M_contentAt 34 = .ok (.imul, 1) := by decide +kernel
theorem d_M_contentAt_35 : decode b_M_contentAt 35 = .ok (.lshl, 1) := by decide +kernel
theorem d_M_contentAt_36 : decode b_M_contentAt 36 = .ok (.lor, 1) := by decide +kernel
theorem d_M_contentAt_37 : decode b_M_contentAt 37 = .ok (.lstore_n 2, 1) := by decide +kernel
theorem d_M_contentAt_38 : decode b_M_contentAt 38 = .ok (.iinc 4 1, 3) := by decide +kernel
theorem d_M_contentAt_41 : decode b_M_contentAt 41 = .ok (.goto (-36), 3) := by decide +kernel
theorem d_M_contentAt_44 : decode b_M_contentAt 44 = .ok (.lload_n 2, 1) := by decide +kernel
theorem d_M_contentAt_45 : decode b_M_contentAt 45 = .ok (.lreturn, 1) := by decide +kernel
end
section
theorem d_F_placeOf_0 : decode b_F_placeOf 0 = .ok (.iload_n 0, 1) := by decide +kernel
theorem d_F_placeOf_1 : decode b_F_placeOf 1 = .ok (.iconst 4, 1) := by decide +kernel
theorem d_F_placeOf_2 : decode b_F_placeOf 2 = .ok (.imul, 1) := by decide +kernel
theorem d_F_placeOf_3 : decode b_F_placeOf 3 = .ok (.iload_n 1, 1) := by decide +kernel
theorem d_F_placeOf_4 : decode b_F_placeOf 4 = .ok (.iadd, 1) := by decide +kernel
theorem d_F_placeOf_5 : decode b_F_placeOf 5 = .ok (.ireturn, 1) := by decide +kernel
theorem d_F_blockOf_0 : decode b_F_blockOf 0 = .ok (.iload_n 0, 1) := by decide +kernel
theorem d_F_blockOf_1 : decode b_F_blockOf 1 = .ok (.iconst 4, 1) := by decide +kernel
theorem d_F_blockOf_2 : decode b_F_blockOf 2 = .ok (.idiv, 1) := by decide +kernel
theorem d_F_blockOf_3 : decode b_F_blockOf 3 = .ok (.ireturn, 1) := by decide +kernel
theorem d_F_isSpoilt_0 : decode b_F_isSpoilt 0 = .ok (.iload_n 0, 1) := by decide +kernel
theorem d_F_isSpoilt_1 : decode b_F_isSpoilt 1 = .ok (.iconst (-1), 1) := by decide +kernel
theorem d_F_isSpoilt_2 : decode b_F_isSpoilt 2 = .ok (.if_icmp .eq 12, 3) := by decide +kernel
theorem d_F_isSpoilt_5 : decode b_F_isSpoilt 5 = .ok (.iload_n 0, 1) := by decide +kernel
theorem d_F_isSpoilt_6 : decode b_F_isSpoilt 6 = .ok (.bipush 12, 2) := by decide +kernel
theorem d_F_isSpoilt_8 : decode b_F_isSpoilt 8 = .ok (.iushr, 1) := by decide +kernel
theorem d_F_isSpoilt_9 : decode b_F_isSpoilt 9 = .ok (.bipush 8, 2) := by decide +kernel
theorem d_F_isSpoilt_11 : decode b_F_isSpoilt 11 = .ok (.if_icmp .lt 7, 3) := by decide +kernel
theorem d_F_isSpoilt_14 : decode b_F_isSpoilt 14 = .ok (.iconst 1, 1) := by decide +kernel
theorem d_F_isSpoilt_15 : decode b_F_isSpoilt 15 = .ok (.goto 4, 3) := by decide +kernel
theorem d_F_isSpoilt_18 : decode b_F_isSpoilt 18 = .ok (.iconst 0, 1) := by decide +kernel
theorem d_F_isSpoilt_19 : decode b_F_isSpoilt 19 = .ok (.ireturn, 1) := by decide +kernel
theorem d_F_isNewer_0 : decode b_F_isNewer 0 = .ok (.iload_n 0, 1) := by decide +kernel
theorem d_F_isNewer_1 : decode b_F_isNewer 1 = .ok (.iload_n 1, 1) := by decide +kernel
theorem d_F_isNewer_2 : decode b_F_isNewer 2 = .ok (.isub, 1) := by decide +kernel
theorem d_F_isNewer_3 : decode b_F_isNewer 3 = .ok (.sipush 4095, 3) := by decide +kernel
theorem d_F_isNewer_6 : decode b_F_isNewer 6 = .ok (.invokestatic 162, 3) := by decide +kernel
theorem d_F_isNewer_9 : decode b_F_isNewer 9 = .ok (.istore_n 2, 1) := by decide +kernel
theorem d_F_isNewer_10 : decode b_F_isNewer 10 = .ok (.iload_n 2, 1) := by decide +kernel
theorem d_F_isNewer_11 : decode b_F_isNewer 11 = .ok (.iconst 1, 1) := by decide +kernel
theorem d_F_isNewer_12 : decode b_F_isNewer 12 = .ok (.if_icmp .lt 14, 3) := by decide +kernel
theorem d_F_isNewer_15 : decode b_F_isNewer 15 = .ok (.iload_n 2, 1) := by decide +kernel
theorem d_F_isNewer_16 : decode b_F_isNewer 16 = .ok (.sipush 2000, 3) := by decide +kernel
theorem d_F_isNewer_19 : decode b_F_isNewer 19 = .ok (.if_icmp .gt 7, 3) := by decide +kernel
theorem d_F_isNewer_22 : decode b_F_isNewer 22 = .ok (.iconst 1, 1) := by decide +kernel
theorem d_F_isNewer_23 : decode b_F_isNewer 23 = .ok (.goto 4, 3) := by decide +kernel
theorem d_F_isNewer_26 : decode b_F_isNewer 26 = .ok (.iconst 0, 1) := by decide +kernel
theorem d_F_isNewer_27 : decode b_F_isNewer 27 = .ok (.ireturn, 1) := by decide +kernel
theorem d_F_serialBehind_0 : decode b_F_serialBehind 0 = .ok (.iload_n 0, 1) := by decide +kernel
theorem d_F_serialBehind_1 : decode b_F_serialBehind 1 = .ok (.iconst 1, 1) := by decide +kernel
theorem d_F_serialBehind_2 : decode b_F_serialBehind 2 = .ok (.iadd, 1) := by decide +kernel
theorem d_F_serialBehind_3 : decode b_F_serialBehind 3 = .ok (.sipush 4095, 3) := by decide +kernel
theorem d_F_serialBehind_6 : decode b_F_serialBehind 6 = .ok (.irem, 1) := by decide +kernel
theorem d_F_serialBehind_7 : decode b_F_serialBehind 7 = .ok (.ireturn, 1) := by decide +kernel
theorem d_F_requireLogicalPage_0 : decode b_F_requireLogicalPage 0 = .ok (.iload_n 0, 1) := by decide +kernel
theorem d_F_requireLogicalPage_1 : decode b_F_requireLogicalPage 1 = .ok (.ifCond .lt 9, 3) := by decide +kernel
theorem d_F_requireLogicalPage_4 : decode b_F_requireLogicalPage 4 = .ok (.iload_n 0, 1) := by decide +kernel
theorem d_F_requireLogicalPage_5 : decode b_F_requireLogicalPage 5 = .ok (.bipush 8, 2) := by decide +kernel
theorem d_F_requireLogicalPage_7 : decode b_F_requireLogicalPage 7 = .ok (.if_icmp .lt 13, 3) := by decide +kernel
theorem d_F_requireLogicalPage_10 : decode b_F_requireLogicalPage 10 = .ok (.new 42, 3) := by decide +kernel
theorem d_F_requireLogicalPage_13 : decode b_F_requireLogicalPage 13 = .ok (.dup, 1) := by decide +kernel
theorem d_F_requireLogicalPage_14 : decode b_F_requireLogicalPage 14 = .ok (.ldc 154, 2) := by decide +kernel
theorem d_F_requireLogicalPage_16 : decode b_F_requireLogicalPage 16 = .ok (.invokespecial 46, 3) := by decide +kernel
theorem d_F_requireLogicalPage_19 : decode b_F_requireLogicalPage 19 = .ok (.athrow, 1) := by decide +kernel
theorem d_F_requireLogicalPage_20 : decode b_F_requireLogicalPage 20 = .ok (.return_, 1) := by decide +kernel
theorem d_F_requireBlock_0 : decode b_F_requireBlock 0 = .ok (.iload_n 0, 1) := by decide +kernel
theorem d_F_requireBlock_1 : decode b_F_requireBlock 1 = .ok (.ifCond .lt 8, 3) := by decide +kernel
theorem d_F_requireBlock_4 : decode b_F_requireBlock 4 = .ok (.iload_n 0, 1) := by decide +kernel
theorem d_F_requireBlock_5 : decode b_F_requireBlock 5 = .ok (.iconst 4, 1) := by decide +kernel
theorem d_F_requireBlock_6 : decode b_F_requireBlock 6 = .ok (.if_icmp .lt 13, 3) := by decide +kernel
theorem d_F_requireBlock_9 : decode b_F_requireBlock 9 = .ok (.new 42, 3) := by decide +kernel
theorem d_F_requireBlock_12 : decode b_F_requireBlock 12 = .ok (.dup, 1) := by decide +kernel
theorem d_F_requireBlock_13 : decode b_F_requireBlock 13 = .ok (.ldc 156, 2) := by decide +kernel
theorem d_F_requireBlock_15 : decode b_F_requireBlock 15 = .ok (.invokespecial 46, 3) := by decide +kernel
theorem d_F_requireBlock_18 : decode b_F_requireBlock 18 = .ok (.athrow, 1) := by decide +kernel
theorem d_F_requireBlock_19 : decode b_F_requireBlock 19 = .ok (.return_, 1) := by decide +kernel
theorem d_F_requirePageOfBlock_0 : decode b_F_requirePageOfBlock 0 = .ok (.iload_n 0, 1) := by decide +kernel
theorem d_F_requirePageOfBlock_1 : decode b_F_requirePageOfBlock 1 = .ok (.ifCond .lt 8, 3) := by decide +kernel
theorem d_F_requirePageOfBlock_4 : decode b_F_requirePageOfBlock 4 = .ok (.iload_n 0, 1) := by decide +kernel
theorem d_F_requirePageOfBlock_5 : decode b_F_requirePageOfBlock 5 = .ok (.iconst 4, 1) := by decide +kernel
theorem d_F_requirePageOfBlock_6 : decode b_F_requirePageOfBlock 6 = .ok (.if_icmp .lt 13, 3) := by decide +kernel
theorem d_F_requirePageOfBlock_9 : decode b_F_requirePageOfBlock 9 = .ok (.new 42, 3) := by decide +kernel
theorem d_F_requirePageOfBlock_12 : decode b_F_requirePageOfBlock 12 = .ok (.dup, 1) := by decide +kernel
theorem d_F_requirePageOfBlock_13 : decode b_F_requirePageOfBlock 13 = .ok (.ldc 158, 2) := by decide +kernel
theorem d_F_requirePageOfBlock_15 : decode b_F_requirePageOfBlock 15 = .ok (.invokespecial 46, 3) := by decide +kernel
theorem d_F_requirePageOfBlock_18 : decode b_F_requirePageOfBlock 18 = .ok (.athrow, 1) := by decide +kernel
theorem d_F_requirePageOfBlock_19 : decode b_F_requirePageOfBlock 19 = .ok (.return_, 1) := by decide +kernel
theorem d_F_requireWord_0 : decode b_F_requireWord 0 = .ok (.iload_n 0, 1) := by decide +kernel
theorem d_F_requireWord_1 : decode b_F_requireWord 1 = .ok (.invokestatic 145, 3) := by decide +kernel
theorem d_F_requireWord_4 : decode b_F_requireWord 4 = .ok (.iload_n 1, 1) := by decide +kernel
theorem d_F_requireWord_5 : decode b_F_requireWord 5 = .ok (.invokestatic 148, 3) := by decide +kernel
theorem d_F_requireWord_8 : decode b_F_requireWord 8 = .ok (.iload_n 2, 1) := by decide +kernel
theorem d_F_requireWord_9 : decode b_F_requireWord 9 = .ok (.ifCond .lt 8, 3) := by decide +kernel
theorem d_F_requireWord_12 : decode b_F_requireWord 12 = .ok (.iload_n 2, 1) := by decide +kernel
theorem d_F_requireWord_13 : decode b_F_requireWord 13 = .ok (.iconst 5, 1) := by decide +kernel
theorem d_F_requireWord_14 : decode b_F_requireWord 14 = .ok (.if_icmp .lt 13, 3) := by decide +kernel
theorem d_F_requireWord_17 : decode b_F_requireWord 17 = .ok (.new 42, 3) := by decide +kernel
theorem d_F_requireWord_20 : decode b_F_requireWord 20 = .ok (.dup, 1) := by decide +kernel
theorem d_F_requireWord_21 : decode b_F_requireWord 21 = .ok (.ldc 160, 2) := by decide +kernel
theorem d_F_requireWord_23 : decode b_F_requireWord 23 = .ok (.invokespecial 46, 3) := by decide +kernel
theorem d_F_requireWord_26 : decode b_F_requireWord 26 = .ok (.athrow, 1) := by decide +kernel
theorem d_F_requireWord_27 : decode b_F_requireWord 27 = .ok (.return_, 1) := by decide +kernel
theorem d_F_hold_0 : decode b_F_hold 0 = .ok (.aload_n 0, 1) := by decide +kernel
theorem d_F_hold_1 : decode b_F_hold 1 = .ok (.getfield 16, 3) := by decide +kernel
theorem d_F_hold_4 : decode b_F_hold 4 = .ok (.iload_n 2, 1) := by decide +kernel
theorem d_F_hold_5 : decode b_F_hold 5 = .ok (.iconst 1, 1) := by decide +kernel
theorem d_F_hold_6 : decode b_F_hold 6 = .ok (.iastore, 1) := by decide +kernel
theorem d_F_hold_7 : decode b_F_hold 7 = .ok (.aload_n 0, 1) := by decide +kernel
theorem d_F_hold_8 : decode b_F_hold 8 = .ok (.getfield 20, 3) := by decide +kernel
theorem d_F_hold_11 : decode b_F_hold 11 = .ok (.iload_n 1, 1) := by decide +kernel
theorem d_F_hold_12 : decode b_F_hold 12 = .ok (.iload_n 2, 1) := by decide +kernel
theorem d_F_hold_13 : decode b_F_hold 13 = .ok (.iastore, 1) := by decide +kernel
theorem d_F_hold_14 : decode b_F_hold 14 = .ok (.return_, 1) := by decide +kernel
theorem d_F_forget_0 : decode b_F_forget 0 = .ok (.aload_n 0, 1) := by decide +kernel
theorem d_F_forget_1 : decode b_F_forget 1 = .ok (.getfield 20, 3) := by decide +kernel
theorem d_F_forget_4 : decode b_F_forget 4 = .ok (.iload_n 1, 1) := by decide +kernel
theorem d_F_forget_5 : decode b_F_forget 5 = .ok (.iaload, 1) := by decide +kernel
theorem d_F_forget_6 : decode b_F_forget 6 = .ok (.iconst (-1), 1) := by decide +kernel
theorem d_F_forget_7 : decode b_F_forget 7 = .ok (.if_icmp .eq 22, 3) := by decide +kernel
theorem d_F_forget_10 : decode b_F_forget 10 = .ok (.aload_n 0, 1) := by decide +kernel
theorem d_F_forget_11 : decode b_F_forget 11 = .ok (.getfield 16, 3) := by decide +kernel
theorem d_F_forget_14 : decode b_F_forget 14 = .ok (.aload_n 0, 1) := by decide +kernel
theorem d_F_forget_15 : decode b_F_forget 15 = .ok (.getfield 20, 3) := by decide +kernel
theorem d_F_forget_18 : decode b_F_forget 18 = .ok (.iload_n 1, 1) := by decide +kernel
theorem d_F_forget_19 : decode b_F_forget 19 = .ok (.iaload, 1) := by decide +kernel
theorem d_F_forget_20 : decode b_F_forget 20 = .ok (.iconst 2, 1) := by decide +kernel
theorem d_F_forget_21 : decode b_F_forget 21 = .ok (.iastore, 1) := by decide +kernel
theorem d_F_forget_22 : decode b_F_forget 22 = .ok (.aload_n 0, 1) := by decide +kernel
theorem d_F_forget_23 : decode b_F_forget 23 = .ok (.getfield 20, 3) := by decide +kernel
theorem d_F_forget_26 : decode b_F_forget 26 = .ok (.iload_n 1, 1) := by decide +kernel
theorem d_F_forget_27 : decode b_F_forget 27 = .ok (.iconst (-1), 1) := by decide +kernel
theorem d_F_forget_28 : decode b_F_forget 28 = .ok (.iastore, 1) := by decide +kernel
theorem d_F_forget_29 : decode b_F_forget 29 = .ok (.return_, 1) := by decide +kernel
theorem d_F_take_0 : decode b_F_take 0 = .ok (.aload_n 0, 1) := by decide +kernel
theorem d_F_take_1 : decode b_F_take 1 = .ok (.getfield 20, 3) := by decide +kernel
theorem d_F_take_4 : decode b_F_take 4 = .ok (.iload_n 2, 1) := by decide +kernel
theorem d_F_take_5 : decode b_F_take 5 = .ok (.iaload, 1) := by decide +kernel
theorem d_F_take_6 : decode b_F_take 6 = .ok (.iconst (-1), 1) := by decide +kernel
theorem d_F_take_7 : decode b_F_take 7 = .ok (.if_icmp .eq 24, 3) := by decide +kernel
theorem d_F_take_10 : decode b_F_take 10 = .ok (.iload_n 3, 1) := by decide +kernel
theorem d_F_take_11 : decode b_F_take 11 = .ok (.aload_n 0, 1) := by decide +kernel
theorem d_F_take_12 : decode b_F_take 12 = .ok (.getfield 23, 3) := by decide +kernel
theorem d_F_take_15 : decode b_F_take 15 = .ok (.iload_n 2, 1) := by decide +kernel
theorem d_F_take_16 : decode b_F_take 16 = .ok (.iaload, 1) := by decide +kernel
theorem d_F_take_17 : decode b_F_take 17 = .ok (.invokestatic 133, 3) := by decide +kernel
theorem d_F_take_20 : decode b_F_take 20 = .ok (.ifCond .ne 11, 3) := by decide +kernel
theorem d_F_take_23 : decode b_F_take 23 = .ok (.aload_n 0, 1) := by decide +kernel
theorem d_F_take_24 : decode b_F_take 24 = .ok (.getfield 16, 3) := by decide +kernel
theorem d_F_take_27 : decode b_F_take 27 = .ok (.iload_n 1, 1) := by decide +kernel
theorem d_F_take_28 : decode b_F_take 28 = .ok (.iconst 2, 1) := by decide +kernel
theorem d_F_take_29 : decode b_F_take 29 = .ok (.iastore, 1) := by decide +kernel
theorem d_F_take_30 : decode b_F_take 30 = .ok (.return_, 1) := by decide +kernel
theorem d_F_take_31 : decode b_F_take 31 = .ok (.aload_n 0, 1) := by decide +kernel
theorem d_F_take_32 : decode b_F_take 32 = .ok (.iload_n 2, 1) := by decide +kernel
theorem d_F_take_33 : decode b_F_take 33 = .ok (.invokevirtual 107, 3) := by decide +kernel
theorem d_F_take_36 : decode b_F_take 36 = .ok (.aload_n 0, 1) := by decide +kernel
theorem d_F_take_37 : decode b_F_take 37 = .ok (.iload_n 2, 1) := by decide +kernel
theorem d_F_take_38 : decode b_F_take 38 = .ok (.iload_n 1, 1) := by decide +kernel
theorem d_F_take_39 : decode b_F_take 39 = .ok (.invokevirtual 167, 3) := by decide +kernel
theorem d_F_take_42 : decode b_F_take 42 = .ok (.aload_n 0, 1) := by decide +kernel
theorem d_F_take_43 : decode b_F_take 43 = .ok (.getfield 23, 3) := by decide +kernel
theorem d_F_take_46 : decode b_F_take 46 = .ok (.iload_n 2, 1) := by decide +kernel
theorem d_F_take_47 : decode b_F_take 47 = .ok (.iload_n 3, 1) := by decide +kernel
theorem d_F_take_48 : decode b_F_take 48 = .ok (.iastore, 1) := by decide +kernel
theorem d_F_take_49 : decode b_F_take 49 = .ok (.return_, 1) := by decide +kernel
theorem d_F_countHeld_0 : decode b_F_countHeld 0 = .ok (.iconst 0, 1) := by decide +kernel
theorem d_F_countHeld_1 : decode b_F_countHeld 1 = .ok (.istore_n 1, 1) := by decide +kernel
theorem d_F_countHeld_2 : decode b_F_countHeld 2 = .ok (.iconst 0, 1) := by decide +kernel
theorem d_F_countHeld_3 : decode b_F_countHeld 3 = .ok (.istore_n 2, 1) := by decide +kernel
theorem d_F_countHeld_4 : decode b_F_countHeld 4 = .ok (.iload_n 2, 1) := by decide +kernel
theorem d_F_countHeld_5 : decode b_F_countHeld 5 = .ok (.bipush 8, 2) := by decide +kernel
theorem d_F_countHeld_7 : decode b_F_countHeld 7 = .ok (.if_icmp .ge 27, 3) := by decide +kernel
theorem d_F_countHeld_10 : decode b_F_countHeld 10 = .ok (.iload_n 1, 1) := by decide +kernel
theorem d_F_countHeld_11 : decode b_F_countHeld 11 = .ok (.aload_n 0, 1) := by decide +kernel
theorem d_F_countHeld_12 : decode b_F_countHeld 12 = .ok (.getfield 20, 3) := by decide +kernel
theorem d_F_countHeld_15 : decode b_F_countHeld 15 = .ok (.iload_n 2, 1) := by decide +kernel
theorem d_F_countHeld_16 : decode b_F_countHeld 16 = .ok (.iaload, 1) := by decide +kernel
theorem d_F_countHeld_17 : decode b_F_countHeld 17 = .ok (.iconst (-1), 1) := by decide +kernel
theorem d_F_countHeld_18 : decode b_F_countHeld 18 = .ok (.if_icmp .eq 7, 3) := by decide +kernel
theorem d_F_countHeld_21 : decode b_F_countHeld 21 = .ok (.iconst 1, 1) := by decide +kernel
theorem d_F_countHeld_22 : decode b_F_countHeld 22 = .ok (.goto 4, 3) := by decide +kernel
theorem d_F_countHeld_25 : decode b_F_countHeld 25 = .ok (.iconst 0, 1) := by decide +kernel
theorem d_F_countHeld_26 : decode b_F_countHeld 26 = .ok (.iadd, 1) := by decide +kernel
theorem d_F_countHeld_27 : decode b_F_countHeld 27 = .ok (.istore_n 1, 1) := by decide +kernel
theorem d_F_countHeld_28 : decode b_F_countHeld 28 = .ok (.iinc 2 1, 3) := by decide +kernel
theorem d_F_countHeld_31 : decode b_F_countHeld 31 = .ok (.goto (-27), 3) := by decide +kernel
theorem d_F_countHeld_34 : decode b_F_countHeld 34 = .ok (.iload_n 1, 1) := by decide +kernel
theorem d_F_countHeld_35 : decode b_F_countHeld 35 = .ok (.ireturn, 1) := by decide +kernel
theorem d_F_logicalPageAt_0 : decode b_F_logicalPageAt 0 = .ok (.iconst 0, 1) := by decide +kernel
theorem d_F_logicalPageAt_1 : decode b_F_logicalPageAt 1 = .ok (.istore_n 2, 1) := by decide +kernel
theorem d_F_logicalPageAt_2 : decode b_F_logicalPageAt 2 = .ok (.iload_n 2, 1) := by decide +kernel
theorem d_F_logicalPageAt_3 : decode b_F_logicalPageAt 3 = .ok (.bipush 8, 2) := by decide +kernel
theorem d_F_logicalPageAt_5 : decode b_F_logicalPageAt 5 = .ok (.if_icmp .ge 21, 3) := by decide +kernel
theorem d_F_logicalPageAt_8 : decode b_F_logicalPageAt 8 = .ok (.aload_n 0, 1) := by decide +kernel
theorem d_F_logicalPageAt_9 : decode b_F_logicalPageAt 9 = .ok (.getfield 20, 3) := by decide +kernel
theorem d_F_logicalPageAt_12 : decode b_F_logicalPageAt 12 = .ok (.iload_n 2, 1) := by decide +kernel
theorem d_F_logicalPageAt_13 : decode b_F_logicalPageAt 13 = .ok (.iaload, 1) := by decide +kernel
theorem d_F_logicalPageAt_14 : decode b_F_logicalPageAt 14 = .ok (.iload_n 1, 1) := by decide +kernel
theorem d_F_logicalPageAt_15 : decode b_F_logicalPageAt 15 = .ok (.if_icmp .ne 5, 3) := by decide +kernel
theorem d_F_logicalPageAt_18 : decode b_F_logicalPageAt 18 = .ok (.iload_n 2, 1) := by decide +kernel
theorem d_F_logicalPageAt_19 : decode b_F_logicalPageAt 19 = .ok (.ireturn, 1) := by decide +kernel
theorem d_F_logicalPageAt_20 : decode b_F_logicalPageAt 20 = .ok (.iinc 2 1, 3) := by decide +kernel
theorem d_F_logicalPageAt_23 : decode b_F_logicalPageAt 23 = .ok (.goto (-21), 3) := by decide +kernel
theorem d_F_logicalPageAt_26 : decode b_F_logicalPageAt 26 = .ok (.iconst (-1), 1) := by decide +kernel
theorem d_F_logicalPageAt_27 : decode b_F_logicalPageAt 27 = .ok (.ireturn, 1) := by decide +kernel
theorem d_F_countInBlock_0 : decode b_F_countInBlock 0 = .ok (.iconst 0, 1) := by decide +kernel
theorem d_F_countInBlock_1 : decode b_F_countInBlock 1 = .ok (.istore_n 3, 1) := by decide +kernel
theorem d_F_countInBlock_2 : decode b_F_countInBlock 2 = .ok (.iconst 0, 1) := by decide +kernel
theorem d_F_countInBlock_3 : decode b_F_countInBlock 3 = .ok (.istore 4, 2) := by decide +kernel
theorem d_F_countInBlock_5 : decode b_F_countInBlock 5 = .ok (.iload 4, 2) := by decide +kernel
theorem d_F_countInBlock_7 : decode b_F_countInBlock 7 = .ok (.iconst 4, 1) := by decide +kernel
theorem d_F_countInBlock_8 : decode b_F_countInBlock 8 = .ok (.if_icmp .ge 32, 3) := by decide +kernel
theorem d_F_countInBlock_11 : decode b_F_countInBlock 11 = .ok (.iload_n 3, 1) := by decide +kernel
theorem d_F_countInBlock_12 : decode b_F_countInBlock 12 = .ok (.aload_n 0, 1) := by decide +kernel
theorem d_F_countInBlock_13 : decode b_F_countInBlock 13 = .ok (.getfield 16, 3) := by decide +kernel
theorem d_F_countInBlock_16 : decode b_F_countInBlock 16 = .ok (.iload_n 1, 1) := by decide +kernel
theorem d_F_countInBlock_17 : decode b_F_countInBlock 17 = .ok (.iload 4, 2) := by decide +kernel
theorem d_F_countInBlock_19 : decode b_F_countInBlock 19 = .ok (.invokestatic 114, 3) := by decide +kernel
theorem d_F_countInBlock_22 : decode b_F_countInBlock 22 = .ok (.iaload, 1) := by decide +kernel
theorem d_F_countInBlock_23 : decode b_F_countInBlock 23 = .ok (.iload_n 2, 1) := by decide +kernel
theorem d_F_countInBlock_24 : decode b_F_countInBlock 24 = .ok (.if_icmp .ne 7, 3) := by decide +kernel
theorem d_F_countInBlock_27 : decode b_F_countInBlock 27 = .ok (.iconst 1, 1) := by decide +kernel
theorem d_F_countInBlock_28 : decode b_F_countInBlock 28 = .ok (.goto 4, 3) := by decide +kernel
theorem d_F_countInBlock_31 : decode b_F_countInBlock 31 = .ok (.iconst 0, 1) := by decide +kernel
theorem d_F_countInBlock_32 : decode b_F_countInBlock 32 = .ok (.iadd, 1) := by decide +kernel
theorem d_F_countInBlock_33 : decode b_F_countInBlock 33 = .ok (.istore_n 3, 1) := by decide +kernel
theorem d_F_countInBlock_34 : decode b_F_countInBlock 34 = .ok (.iinc 4 1, 3) := by decide +kernel
theorem d_F_countInBlock_37 : decode b_F_countInBlock 37 = .ok (.goto (-32), 3) := by decide +kernel
theorem d_F_countInBlock_40 : decode b_F_countInBlock 40 = .ok (.iload_n 3, 1) := by decide +kernel
theorem d_F_countInBlock_41 : decode b_F_countInBlock 41 = .ok (.ireturn, 1) := by decide +kernel
theorem d_F_isWholeFree_0 : decode b_F_isWholeFree 0 = .ok (.aload_n 0, 1) := by decide +kernel
theorem d_F_isWholeFree_1 : decode b_F_isWholeFree 1 = .ok (.iload_n 1, 1) := by decide +kernel
theorem d_F_isWholeFree_2 : decode b_F_isWholeFree 2 = .ok (.iconst 0, 1) := by decide +kernel
theorem d_F_isWholeFree_3 : decode b_F_isWholeFree 3 = .ok (.invokevirtual 171, 3) := by decide +kernel
theorem d_F_isWholeFree_6 : decode b_F_isWholeFree 6 = .ok (.iconst 4, 1) := by decide +kernel
theorem d_F_isWholeFree_7 : decode b_F_isWholeFree 7 = .ok (.if_icmp .ne 7, 3) := by decide +kernel
theorem d_F_isWholeFree_10 : decode b_F_isWholeFree 10 = .ok (.iconst 1, 1) := by decide +kernel
theorem d_F_isWholeFree_11 : decode b_F_isWholeFree 11 = .ok (.goto 4, 3) := by decide +kernel
theorem d_F_isWholeFree_14 : decode b_F_isWholeFree 14 = .ok (.iconst 0, 1) := by decide +kernel
theorem d_F_isWholeFree_15 : decode b_F_isWholeFree 15 = .ok (.ireturn, 1) := by decide +kernel
theorem d_F_freePlace_0 : decode b_F_freePlace 0 = .ok (.iconst (-1), 1) := by decide +kernel
theorem d_F_freePlace_1 : decode b_F_freePlace 1 = .ok (.istore_n 2, 1) := by decide +kernel
theorem d_F_freePlace_2 : decode b_F_freePlace 2 = .ok (.iconst 0, 1) := by decide +kernel
theorem d_F_freePlace_3 : decode b_F_freePlace 3 = .ok (.istore_n 3, 1) := by decide +kernel
theorem d_F_freePlace_4 : decode b_F_freePlace 4 = .ok (.iload_n 3, 1) := by decide +kernel
theorem d_F_freePlace_5 : decode b_F_freePlace 5 = .ok (.bipush 16, 2) := by decide +kernel
theorem d_F_freePlace_7 : decode b_F_freePlace 7 = .ok (.if_icmp .ge 51, 3) := by decide +kernel
theorem d_F_freePlace_10 : decode b_F_freePlace 10 = .ok (.iload_n 3, 1) := by decide +kernel
theorem d_F_freePlace_11 : decode b_F_freePlace 11 = .ok (.invokestatic 174, 3) := by decide +kernel
theorem d_F_freePlace_14 : decode b_F_freePlace 14 = .ok (.istore 4, 2) := by decide +kernel
theorem d_F_freePlace_16 : decode b_F_freePlace 16 = .ok (.aload_n 0, 1) := by decide +kernel
theorem d_F_freePlace_17 : decode b_F_freePlace 17 = .ok (.getfield 16, 3) := by decide +kernel
theorem d_F_freePlace_20 : decode b_F_freePlace 20 = .ok (.iload_n 3, 1) := by decide +kernel
theorem d_F_freePlace_21 : decode b_F_freePlace 21 = .ok (.iaload, 1) := by decide +kernel
theorem d_F_freePlace_22 : decode b_F_freePlace 22 = .ok (.ifCond .ne 30, 3) := by decide +kernel
theorem d_F_freePlace_25 : decode b_F_freePlace 25 = .ok (.iload 4, 2) := by decide +kernel
theorem d_F_freePlace_27 : decode b_F_freePlace 27 = .ok (.iload_n 1, 1) := by decide +kernel
theorem d_F_freePlace_28 : decode b_F_freePlace 28 = .ok (.if_icmp .ne 6, 3) := by decide +kernel
theorem d_F_freePlace_31 : decode b_F_freePlace 31 = .ok (.goto 21, 3) := by decide +kernel
theorem d_F_freePlace_34 : decode b_F_freePlace 34 = .ok (.aload_n 0, 1) := by decide +kernel
theorem d_F_freePlace_35 : decode b_F_freePlace 35 = .ok (.iload 4, 2) := by decide +kernel
theorem d_F_freePlace_37 : decode b_F_freePlace 37 = .ok (.invokevirtual 177, 3) := by decide +kernel
theorem d_F_freePlace_40 : decode b_F_freePlace 40 = .ok (.ifCond .ne 5, 3) := by decide +kernel
theorem d_F_freePlace_43 : decode b_F_freePlace 43 = .ok (.iload_n 3, 1) := by decide +kernel
theorem d_F_freePlace_44 : decode b_F_freePlace 44 = .ok (.ireturn, 1) := by decide +kernel
theorem d_F_freePlace_45 : decode b_F_freePlace 45 = .ok (.iload_n 2, 1) := by decide +kernel
theorem d_F_freePlace_46 : decode b_F_freePlace 46 = .ok (.iconst (-1), 1) := by decide +kernel
theorem d_F_freePlace_47 : decode b_F_freePlace 47 = .ok (.if_icmp .ne 5, 3) := by decide +kernel
theorem d_F_freePlace_50 : decode b_F_freePlace 50 = .ok (.iload_n 3, 1) := by decide +kernel
theorem d_F_freePlace_51 : decode b_F_freePlace 51 = .ok (.istore_n 2, 1) := by decide +kernel
theorem d_F_freePlace_52 : decode b_F_freePlace 52 = .ok (.iinc 3 1, 3) := by decide +kernel
theorem d_F_freePlace_55 : decode b_F_freePlace 55 = .ok (.goto (-51), 3) := by decide +kernel
theorem d_F_freePlace_58 : decode b_F_freePlace 58 = .ok (.iload_n 2, 1) := by decide +kernel
theorem d_F_freePlace_59 : decode b_F_freePlace 59 = .ok (.ireturn, 1) := by decide +kernel
theorem d_F_leavesBlockFree_0 : decode b_F_leavesBlockFree 0 = .ok (.aload_n 0, 1) := by decide +kernel
theorem d_F_leavesBlockFree_1 : decode b_F_leavesBlockFree 1 = .ok (.iconst (-1), 1) := by decide +kernel
theorem d_F_leavesBlockFree_2 : decode b_F_leavesBlockFree 2 = .ok (.invokevirtual 180, 3) := by decide +kernel
theorem d_F_leavesBlockFree_5 : decode b_F_leavesBlockFree 5 = .ok (.istore_n 1, 1) := by decide +kernel
theorem d_F_leavesBlockFree_6 : decode b_F_leavesBlockFree 6 = .ok (.iload_n 1, 1) := by decide +kernel
theorem d_F_leavesBlockFree_7 : decode b_F_leavesBlockFree 7 = .ok (.iconst (-1), 1) := by decide +kernel
theorem d_F_leavesBlockFree_8 : decode b_F_leavesBlockFree 8 = .ok (.if_icmp .ne 5, 3) := by decide +kernel
theorem d_F_leavesBlockFree_11 : decode b_F_leavesBlockFree 11 = .ok (.iconst 0, 1) := by decide +kernel
theorem d_F_leavesBlockFree_12 : decode b_F_leavesBlockFree 12 = .ok (.ireturn, 1) := by decide +kernel
theorem d_F_leavesBlockFree_13 : decode b_F_leavesBlockFree 13 = .ok (.iconst 0, 1) := by decide +kernel
theorem d_F_leavesBlockFree_14 : decode b_F_leavesBlockFree 14 = .ok (.istore_n 2, 1) := by decide +kernel
theorem d_F_leavesBlockFree_15 : decode b_F_leavesBlockFree 15 = .ok (.iload_n 2, 1) := by decide +kernel
theorem d_F_leavesBlockFree_16 : decode b_F_leavesBlockFree 16 = .ok (.iconst 4, 1) := by decide +kernel
theorem d_F_leavesBlockFree_17 : decode b_F_leavesBlockFree 17 = .ok (.if_icmp .ge 27, 3) := by decide +kernel
theorem d_F_leavesBlockFree_20 : decode b_F_leavesBlockFree 20 = .ok (.iload_n 2, 1) := by decide +kernel
theorem d_F_leavesBlockFree_21 : decode b_F_leavesBlockFree 21 = .ok (.iload_n 1, 1) := by decide +kernel
theorem d_F_leavesBlockFree_22 : decode b_F_leavesBlockFree 22 = .ok (.invokestatic 174, 3) := by decide +kernel
theorem d_F_leavesBlockFree_25 : decode b_F_leavesBlockFree 25 = .ok (.if_icmp .eq 13, 3) := by decide +kernel
theorem d_F_leavesBlockFree_28 : decode b_F_leavesBlockFree 28 = .ok (.aload_n 0, 1) := by decide +kernel
theorem d_F_leavesBlockFree_29 : decode b_F_leavesBlockFree 29 = .ok (.iload_n 2, 1) := by decide +kernel
theorem d_F_leavesBlockFree_30 : decode b_F_leavesBlockFree 30 = .ok (.invokevirtual 177, 3) := by decide +kernel
theorem d_F_leavesBlockFree_33 : decode b_F_leavesBlockFree 33 = .ok (.ifCond .eq 5, 3) := by decide +kernel
theorem d_F_leavesBlockFree_36 : decode b_F_leavesBlockFree 36 = .ok (.iconst 1, 1) := by decide +kernel
theorem d_F_leavesBlockFree_37 : decode b_F_leavesBlockFree 37 = .ok (.ireturn, 1) := by decide +kernel
theorem d_F_leavesBlockFree_38 : decode b_F_leavesBlockFree 38 = .ok (.iinc 2 1, 3) := by decide +kernel
theorem d_F_leavesBlockFree_41 : decode b_F_leavesBlockFree 41 = .ok (.goto (-26), 3) := by decide +kernel
theorem d_F_leavesBlockFree_44 : decode b_F_leavesBlockFree 44 = .ok (.iconst 0, 1) := by decide +kernel
theorem d_F_leavesBlockFree_45 : decode b_F_leavesBlockFree 45 = .ok (.ireturn, 1) := by decide +kernel
theorem d_F_put_0 : decode b_F_put 0 = .ok (.aload_n 0, 1) := by decide +kernel
theorem d_F_put_1 : decode b_F_put 1 = .ok (.iload 4, 2) := by decide +kernel
theorem d_F_put_3 : decode b_F_put 3 = .ok (.invokevirtual 180, 3) := by decide +kernel
theorem d_F_put_6 : decode b_F_put 6 = .ok (.istore 5, 2) := by decide +kernel
theorem d_F_put_8 : decode b_F_put 8 = .ok (.iload 5, 2) := by decide +kernel
theorem d_F_put_10 : decode b_F_put 10 = .ok (.iconst (-1), 1) := by decide +kernel
theorem d_F_put_11 : decode b_F_put 11 = .ok (.if_icmp .ne 4, 3) := by decide +kernel
theorem d_F_put_14 : decode b_F_put 14 = .ok (.return_, 1) := by decide +kernel
theorem d_F_put_15 : decode b_F_put 15 = .ok (.aload_n 0, 1) := by decide +kernel
theorem d_F_put_16 : decode b_F_put 16 = .ok (.getfield 12, 3) := by decide +kernel
theorem d_F_put_19 : decode b_F_put 19 = .ok (.iload 5, 2) := by decide +kernel
theorem d_F_put_21 : decode b_F_put 21 = .ok (.lload_n 2, 1) := by decide +kernel
theorem d_F_put_22 : decode b_F_put 22 = .ok (.iload_n 1, 1) := by decide +kernel
theorem d_F_put_23 : decode b_F_put 23 = .ok (.bipush 12, 2) := by decide +kernel
theorem d_F_put_25 : decode b_F_put 25 = .ok (.ishl, 1) := by decide +kernel
theorem d_F_put_26 : decode b_F_put 26 = .ok (.aload_n 0, 1) := by decide +kernel
theorem d_F_put_27 : decode b_F_put 27 = .ok (.getfield 26, 3) := by decide +kernel
theorem d_F_put_30 : decode b_F_put 30 = .ok (.ior, 1) := by decide +kernel
theorem d_F_put_31 : decode b_F_put 31 = .ok (.invokevirtual 183, 3) := by decide +kernel
theorem d_F_put_34 : decode b_F_put 34 = .ok (.aload_n 0, 1) := by decide +kernel
theorem d_F_put_35 : decode b_F_put 35 = .ok (.aload_n 0, 1) := by decide +kernel
theorem d_F_put_36 : decode b_F_put 36 = .ok (.getfield 26, 3) := by decide +kernel
theorem d_F_put_39 : decode b_F_put 39 = .ok (.invokestatic 137, 3) := by decide +kernel
theorem d_F_put_42 : decode b_F_put 42 = .ok (.putfield 26, 3) := by decide +kernel
theorem d_F_put_45 : decode b_F_put 45 = .ok (.aload_n 0, 1) := by decide +kernel
theorem d_F_put_46 : decode b_F_put 46 = .ok (.iload_n 1, 1) := by decide +kernel
theorem d_F_put_47 : decode b_F_put 47 = .ok (.invokevirtual 107, 3) := by decide +kernel
theorem d_F_put_50 : decode b_F_put 50 = .ok (.aload_n 0, 1) := by decide +kernel
theorem d_F_put_51 : decode b_F_put 51 = .ok (.iload_n 1, 1) := by decide +kernel
theorem d_F_put_52 : decode b_F_put 52 = .ok (.iload 5, 2) := by decide +kernel
theorem d_F_put_54 : decode b_F_put 54 = .ok (.invokevirtual 167, 3) := by decide +kernel
theorem d_F_put_57 : decode b_F_put 57 = .ok (.return_, 1) := by decide +kernel
theorem d_F_countFreeOutside_0 : decode b_F_countFreeOutside 0 = .ok (.iconst 0, 1) := by decide +kernel
theorem d_F_countFreeOutside_1 : decode b_F_countFreeOutside 1 = .ok (.istore_n 2, 1) := by decide +kernel
theorem d_F_countFreeOutside_2 : decode b_F_countFreeOutside 2 = .ok (.iconst 0, 1) := by decide +kernel
theorem d_F_countFreeOutside_3 : decode b_F_countFreeOutside 3 = .ok (.istore_n 3, 1) := by decide +kernel
theorem d_F_countFreeOutside_4 : decode b_F_countFreeOutside 4 = .ok (.iload_n 3, 1) := by decide +kernel
theorem d_F_countFreeOutside_5 : decode b_F_countFreeOutside 5 = .ok (.iconst 4, 1) := by decide +kernel
theorem d_F_countFreeOutside_6 : decode b_F_countFreeOutside 6 = .ok (.if_icmp .ge 27, 3) := by decide +kernel
theorem d_F_countFreeOutside_9 : decode b_F_countFreeOutside 9 = .ok (.iload_n 2, 1) := by decide +kernel
theorem d_F_countFreeOutside_10 : decode b_F_countFreeOutside 10 = .ok (.iload_n 3, 1) := by decide +kernel
theorem d_F_countFreeOutside_11 : decode b_F_countFreeOutside 11 = .ok (.iload_n 1, 1) := by decide +kernel
theorem d_F_countFreeOutside_12 : decode b_F_countFreeOutside 12 = .ok (.if_icmp .eq 12, 3) := by decide +kernel
theorem d_F_countFreeOutside_15 : decode b_F_countFreeOutside 15 = .ok (.aload_n 0, 1) := by decide +kernel
theorem d_F_countFreeOutside_16 : decode b_F_countFreeOutside 16 = .ok (.iload_n 3, 1) := by decide +kernel
theorem d_F_countFreeOutside_17 : decode b_F_countFreeOutside 17 = .ok (.iconst 0, 1) := by decide +kernel
theorem d_F_countFreeOutside_18 : decode b_F_countFreeOutside 18 = .ok (.invokevirtual 171, 3) := by decide +kernel
theorem d_F_countFreeOutside_21 : decode b_F_countFreeOutside 21 = .ok (.goto 4, 3) := by decide +kernel
theorem d_F_countFreeOutside_24 : decode b_F_countFreeOutside 24 = .ok (.iconst 0, 1) := by decide +kernel
theorem d_F_countFreeOutside_25 : decode b_F_countFreeOutside 25 = .ok (.iadd, 1) := by decide +kernel
theorem d_F_countFreeOutside_26 : decode b_F_countFreeOutside 26 = .ok (.istore_n 2, 1) := by decide +kernel
theorem d_F_countFreeOutside_27 : decode b_F_countFreeOutside 27 = .ok (.iinc 3 1, 3) := by decide +kernel
theorem d_F_countFreeOutside_30 : decode b_F_countFreeOutside 30 = .ok (.goto (-26), 3) := by decide +kernel
theorem d_F_countFreeOutside_33 : decode b_F_countFreeOutside 33 = .ok (.iload_n 2, 1) := by decide +kernel
theorem d_F_countFreeOutside_34 : decode b_F_countFreeOutside 34 = .ok (.ireturn, 1) := by decide +kernel
theorem d_F_canBeCleaned_0 : decode b_F_canBeCleaned 0 = .ok (.aload_n 0, 1) := by decide +kernel
theorem d_F_canBeCleaned_1 : decode b_F_canBeCleaned 1 = .ok (.iload_n 1, 1) := by decide +kernel
theorem d_F_canBeCleaned_2 : decode b_F_canBeCleaned 2 = .ok (.iconst 1, 1) := by decide +kernel
theorem d_F_canBeCleaned_3 : decode b_F_canBeCleaned 3 = .ok (.invokevirtual 171, 3) := by decide +kernel
theorem d_F_canBeCleaned_6 : decode b_F_canBeCleaned 6 = .ok (.istore_n 2, 1) := by decide +kernel
theorem d_F_canBeCleaned_7 : decode b_F_canBeCleaned 7 = .ok (.aload_n 0, 1) := by decide +kernel
theorem d_F_canBeCleaned_8 : decode b_F_canBeCleaned 8 = .ok (.iload_n 1, 1) := by decide +kernel
theorem d_F_canBeCleaned_9 : decode b_F_canBeCleaned 9 = .ok (.invokevirtual 177, 3) := by decide +kernel
theorem d_F_canBeCleaned_12 : decode b_F_canBeCleaned 12 = .ok (.ifCond .ne 21, 3) := by decide +kernel
theorem d_F_canBeCleaned_15 : decode b_F_canBeCleaned 15 = .ok (.iload_n 2, 1) := by decide +kernel
theorem d_F_canBeCleaned_16 : decode b_F_canBeCleaned 16 = .ok (.iconst 4, 1) := by decide +kernel
theorem d_F_canBeCleaned_17 : decode b_F_canBeCleaned 17 = .ok (.if_icmp .ge 16, 3) := by decide +kernel
theorem d_F_canBeCleaned_20 : decode b_F_canBeCleaned 20 = .ok (.iload_n 2, 1) := by decide +kernel
theorem d_F_canBeCleaned_21 : decode b_F_canBeCleaned 21 = .ok (.aload_n 0, 1) := by decide +kernel
theorem d_F_canBeCleaned_22 : decode b_F_canBeCleaned 22 = .ok (.iload_n 1, 1) := by decide +kernel
theorem d_F_canBeCleaned_23 : decode b_F_canBeCleaned 23 = .ok (.invokevirtual 192, 3) := by decide +kernel
theorem d_F_canBeCleaned_26 : decode b_F_canBeCleaned 26 = .ok (.if_icmp .gt 7, 3) := by decide +kernel
theorem d_F_canBeCleaned_29 : decode b_F_canBeCleaned 29 = .ok (.iconst 1, 1) := by decide +kernel
theorem d_F_canBeCleaned_30 : decode b_F_canBeCleaned 30 = .ok (.goto 4, 3) := by decide +kernel
theorem d_F_canBeCleaned_33 : decode b_F_canBeCleaned 33 = .ok (.iconst 0, 1) := by decide +kernel
theorem d_F_canBeCleaned_34 : decode b_F_canBeCleaned 34 = .ok (.ireturn, 1) := by decide +kernel
theorem d_F_isBetterToClean_0 : decode b_F_isBetterToClean 0 = .ok (.aload_n 0, 1) := by decide +kernel
theorem d_F_isBetterToClean_1 : decode b_F_isBetterToClean 1 = .ok (.iload_n 1, 1) := by decide +kernel
theorem d_F_isBetterToClean_2 : decode b_F_isBetterToClean 2 = .ok (.iconst 1, 1) := by decide +kernel
theorem d_F_isBetterToClean_3 : decode b_F_isBetterToClean 3 = .ok (.invokevirtual 171, 3) := by decide +kernel
theorem d_F_isBetterToClean_6 : decode b_F_isBetterToClean 6 = .ok (.istore_n 3, 1) := by decide +kernel
theorem d_F_isBetterToClean_7 : decode b_F_isBetterToClean 7 = .ok (.aload_n 0, 1) := by decide +kernel
theorem d_F_isBetterToClean_8 : decode b_F_isBetterToClean 8 = .ok (.iload_n 2, 1) := by decide +kernel
theorem d_F_isBetterToClean_9 : decode b_F_isBetterToClean 9 = .ok (.iconst 1, 1) := by decide +kernel
theorem d_F_isBetterToClean_10 : decode b_F_isBetterToClean 10 = .ok (.invokevirtual 171, 3) := by decide +kernel
theorem d_F_isBetterToClean_13 : decode b_F_isBetterToClean 13 = .ok (.istore 4, 2) := by decide +kernel
theorem d_F_isBetterToClean_15 : decode b_F_isBetterToClean 15 = .ok (.iload_n 3, 1) := by decide +kernel
theorem d_F_isBetterToClean_16 : decode b_F_isBetterToClean 16 = .ok (.iload 4, 2) := by decide +kernel
theorem d_F_isBetterToClean_18 : decode b_F_isBetterToClean 18 = .ok (.if_icmp .eq 17, 3) := by decide +kernel
theorem d_F_isBetterToClean_21 : decode b_F_isBetterToClean 21 = .ok (.iload_n 3, 1) := by decide +kernel
theorem d_F_isBetterToClean_22 : decode b_F_isBetterToClean 22 = .ok (.iload 4, 2) := by decide +kernel
theorem d_F_isBetterToClean_24 : decode b_F_isBetterToClean 24 = .ok (.if_icmp .ge 7, 3) := by decide +kernel
theorem d_F_isBetterToClean_27 : decode b_F_isBetterToClean 27 = .ok (.iconst 1, 1) := by decide +kernel
theorem d_F_isBetterToClean_28 : decode b_F_isBetterToClean 28 = .ok (.goto 31, 3) := by decide +kernel
theorem d_F_isBetterToClean_31 : decode b_F_isBetterToClean 31 = .ok (.iconst 0, 1) := by decide +kernel
theorem d_F_isBetterToClean_32 : decode b_F_isBetterToClean 32 = .ok (.goto 27, 3) := by decide +kernel
theorem d_F_isBetterToClean_35 : decode b_F_isBetterToClean 35 = .ok (.aload_n 0, 1) := by decide +kernel
theorem d_F_isBetterToClean_36 : decode b_F_isBetterToClean 36 = .ok (.getfield 12, 3) := by decide +kernel
theorem d_F_isBetterToClean_39 : decode b_F_isBetterToClean 39 = .ok (.iload_n 1, 1) := by decide +kernel
theorem d_F_isBetterToClean_40 : decode b_F_isBetterToClean 40 = .ok (.invokevirtual 151, 3) := by decide +kernel
theorem d_F_isBetterToClean_43 : decode b_F_isBetterToClean 43 = .ok (.aload_n 0, 1) := by decide +kernel
theorem d_F_isBetterToClean_44 : decode b_F_isBetterToClean 44 = .ok (.getfield 12, 3) := by decide +kernel
theorem d_F_isBetterToClean_47 : decode b_F_isBetterToClean 47 = .ok (.iload_n 2, 1) := by decide +kernel
theorem d_F_isBetterToClean_48 : decode b_F_isBetterToClean 48 = .ok (.invokevirtual 151, 3) := by decide +kernel
theorem d_F_isBetterToClean_51 : decode b_F_isBetterToClean 51 = .ok (.if_icmp .ge 7, 3) := by decide +kernel
theorem d_F_isBetterToClean_54 : decode b_F_isBetterToClean 54 = .ok (.iconst 1, 1) := by decide +kernel
theorem d_F_isBetterToClean_55 : decode b_F_isBetterToClean 55 = .ok (.goto 4, 3) := by decide +kernel
theorem d_F_isBetterToClean_58 : decode b_F_isBetterToClean 58 = .ok (.iconst 0, 1) := by decide +kernel
theorem d_F_isBetterToClean_59 : decode b_F_isBetterToClean 59 = .ok (.ireturn, 1) := by decide +kernel
theorem d_F_blockToClean_0 : decode b_F_blockToClean 0 = .ok (.iconst (-1), 1) := by decide +kernel
theorem d_F_blockToClean_1 : decode b_F_blockToClean 1 = .ok (.istore_n 1, 1) := by decide +kernel
theorem d_F_blockToClean_2 : decode b_F_blockToClean 2 = .ok (.iconst 0, 1) := by decide +kernel
theorem d_F_blockToClean_3 : decode b_F_blockToClean 3 = .ok (.istore_n 2, 1) := by decide +kernel
theorem d_F_blockToClean_4 : decode b_F_blockToClean 4 = .ok (.iload_n 2, 1) := by decide +kernel
theorem d_F_blockToClean_5 : decode b_F_blockToClean 5 = .ok (.iconst 4, 1) := by decide +kernel
theorem d_F_blockToClean_6 : decode b_F_blockToClean 6 = .ok (.if_icmp .ge 33, 3) := by decide +kernel
theorem d_F_blockToClean_9 : decode b_F_blockToClean 9 = .ok (.aload_n 0, 1) := by decide +kernel
theorem d_F_blockToClean_10 : decode b_F_blockToClean 10 = .ok (.iload_n 2, 1) := by decide +kernel
theorem d_F_blockToClean_11 : decode b_F_blockToClean 11 = .ok (.invokevirtual 186, 3) := by decide +kernel
theorem d_F_blockToClean_14 : decode b_F_blockToClean 14 = .ok (.ifCond .eq 19, 3) := by decide +kernel
theorem d_F_blockToClean_17 : decode b_F_blockToClean 17 = .ok (.iload_n 1, 1) := by decide +kernel
theorem d_F_blockToClean_18 : decode b_F_blockToClean 18 = .ok (.iconst (-1), 1) := by decide +kernel
theorem d_F_blockToClean_19 : decode b_F_blockToClean 19 = .ok (.if_icmp .eq 12, 3) := by decide +kernel
theorem d_F_blockToClean_22 : decode b_F_blockToClean 22 = .ok (.aload_n 0, 1) := by decide +kernel
theorem d_F_blockToClean_23 : decode b_F_blockToClean 23 = .ok (.iload_n 2, 1) := by decide +kernel
theorem d_F_blockToClean_24 : decode b_F_blockToClean 24 = .ok (.iload_n 1, 1) := by decide +kernel
theorem d_F_blockToClean_25 : decode b_F_blockToClean 25 = .ok (.invokevirtual 189, 3) := by decide +kernel
theorem d_F_blockToClean_28 : decode b_F_blockToClean 28 = .ok (.ifCond .eq 5, 3) := by decide +kernel
theorem d_F_blockToClean_31 : decode b_F_blockToClean 31 = .ok (.iload_n 2, 1) := by decide +kernel
theorem d_F_blockToClean_32 : decode b_F_blockToClean 32 = .ok (.istore_n 1, 1) := by decide +kernel
theorem d_F_blockToClean_33 : decode b_F_blockToClean 33 = .ok (.iinc 2 1, 3) := by decide +kernel
theorem d_F_blockToClean_36 : decode b_F_blockToClean 36 = .ok (.goto (-32), 3) := by decide +kernel
theorem d_F_blockToClean_39 : decode b_F_blockToClean 39 = .ok (.iload_n 1, 1) := by decide +kernel
theorem d_F_blockToClean_40 : decode b_F_blockToClean 40 = .ok (.ireturn, 1) := by decide +kernel
theorem d_F_moveAway_0 : decode b_F_moveAway 0 = .ok (.aload_n 0, 1) := by decide +kernel
theorem d_F_moveAway_1 : decode b_F_moveAway 1 = .ok (.iload_n 1, 1) := by decide +kernel
theorem d_F_moveAway_2 : decode b_F_moveAway 2 = .ok (.invokevirtual 201, 3) := by decide +kernel
theorem d_F_moveAway_5 : decode b_F_moveAway 5 = .ok (.istore_n 2, 1) := by decide +kernel
theorem d_F_moveAway_6 : decode b_F_moveAway 6 = .ok (.iload_n 2, 1) := by decide +kernel
theorem d_F_moveAway_7 : decode b_F_moveAway 7 = .ok (.iconst (-1), 1) := by decide +kernel
theorem d_F_moveAway_8 : decode b_F_moveAway 8 = .ok (.if_icmp .ne 4, 3) := by decide +kernel
theorem d_F_moveAway_11 : decode b_F_moveAway 11 = .ok (.return_, 1) := by decide +kernel
theorem d_F_moveAway_12 : decode b_F_moveAway 12 = .ok (.aload_n 0, 1) := by decide +kernel
theorem d_F_moveAway_13 : decode b_F_moveAway 13 = .ok (.getfield 12, 3) := by decide +kernel
theorem d_F_moveAway_16 : decode b_F_moveAway 16 = .ok (.iload_n 1, 1) := by decide +kernel
theorem d_F_moveAway_17 : decode b_F_moveAway 17 = .ok (.invokevirtual 97, 3) := by decide +kernel
theorem d_F_moveAway_20 : decode b_F_moveAway 20 = .ok (.ifCond .eq 23, 3) := by decide +kernel
theorem d_F_moveAway_23 : decode b_F_moveAway 23 = .ok (.aload_n 0, 1) := by decide +kernel
theorem d_F_moveAway_24 : decode b_F_moveAway 24 = .ok (.iload_n 2, 1) := by decide +kernel
theorem d_F_moveAway_25 : decode b_F_moveAway 25 = .ok (.aload_n 0, 1) := by decide +kernel
theorem d_F_moveAway_26 : decode b_F_moveAway 26 = .ok (.getfield 12, 3) := by decide +kernel
theorem d_F_moveAway_29 : decode b_F_moveAway 29 = .ok (.iload_n 1, 1) := by decide +kernel
theorem d_F_moveAway_30 : decode b_F_moveAway 30 = .ok (.invokevirtual 103, 3) := by decide +kernel
theorem d_F_moveAway_33 : decode b_F_moveAway 33 = .ok (.iload_n 1, 1) := by decide +kernel
theorem d_F_moveAway_34 : decode b_F_moveAway 34 = .ok (.invokestatic 174, 3) := by decide +kernel
theorem d_F_moveAway_37 : decode b_F_moveAway 37 = .ok (.invokevirtual 91, 3) := by decide +kernel
theorem d_F_moveAway_40 : decode b_F_moveAway 40 = .ok (.goto 8, 3) := by decide +kernel
theorem d_F_moveAway_43 : decode b_F_moveAway 43 = .ok (.aload_n 0, 1) := by decide +kernel
theorem d_F_moveAway_44 : decode b_F_moveAway 44 = .ok (.iload_n 2, 1) := by decide +kernel
theorem d_F_moveAway_45 : decode b_F_moveAway 45 = .ok (.invokevirtual 107, 3) := by decide +kernel
theorem d_F_moveAway_48 : decode b_F_moveAway 48 = .ok (.return_, 1) := by decide +kernel
theorem d_F_cleanBlock_0 : decode b_F_cleanBlock 0 = .ok (.iconst 0, 1) := by decide +kernel
theorem d_F_cleanBlock_1 : decode b_F_cleanBlock 1 = .ok (.istore_n 2, 1) := by decide +kernel
theorem d_F_cleanBlock_2 : decode b_F_cleanBlock 2 = .ok (.iload_n 2, 1) := by decide +kernel
theorem d_F_cleanBlock_3 : decode b_F_cleanBlock 3 = .ok (.iconst 4, 1) := by decide +kernel
theorem d_F_cleanBlock_4 : decode b_F_cleanBlock 4 = .ok (.if_icmp .ge 18, 3) := by decide +kernel
theorem d_F_cleanBlock_7 : decode b_F_cleanBlock 7 = .ok (.aload_n 0, 1) := by decide +kernel
theorem d_F_cleanBlock_8 : decode b_F_cleanBlock 8 = .ok (.iload_n 1, 1) := by decide +kernel
theorem d_F_cleanBlock_9 : decode b_F_cleanBlock 9 = .ok (.iload_n 2, 1) := by decide +kernel
theorem d_F_cleanBlock_10 : decode b_F_cleanBlock 10 = .ok (.invokestatic 114, 3) := by decide +kernel
theorem d_F_cleanBlock_13 : decode b_F_cleanBlock 13 = .ok (.invokevirtual 195, 3) := by decide +kernel
theorem d_F_cleanBlock_16 : decode b_F_cleanBlock 16 = .ok (.iinc 2 1, 3) := by decide +kernel
theorem d_F_cleanBlock_19 : decode b_F_cleanBlock 19 = .ok (.goto (-17), 3) := by decide +kernel
theorem d_F_cleanBlock_22 : decode b_F_cleanBlock 22 = .ok (.aload_n 0, 1) := by decide +kernel
theorem d_F_cleanBlock_23 : decode b_F_cleanBlock 23 = .ok (.getfield 12, 3) := by decide +kernel
theorem d_F_cleanBlock_26 : decode b_F_cleanBlock 26 = .ok (.iload_n 1, 1) := by decide +kernel
theorem d_F_cleanBlock_27 : decode b_F_cleanBlock 27 = .ok (.invokevirtual 198, 3) := by decide +kernel
theorem d_F_cleanBlock_30 : decode b_F_cleanBlock 30 = .ok (.iconst 0, 1) := by decide +kernel
theorem d_F_cleanBlock_31 : decode b_F_cleanBlock 31 = .ok (.istore_n 2, 1) := by decide +kernel
theorem d_F_cleanBlock_32 : decode b_F_cleanBlock 32 = .ok (.iload_n 2, 1) := by decide +kernel
theorem d_F_cleanBlock_33 : decode b_F_cleanBlock 33 = .ok (.iconst 4, 1) := by decide +kernel
theorem d_F_cleanBlock_34 : decode b_F_cleanBlock 34 = .ok (.if_icmp .ge 20, 3) := by decide +kernel
theorem d_F_cleanBlock_37 : decode b_F_cleanBlock 37 = .ok (.aload_n 0, 1) := by decide +kernel
theorem d_F_cleanBlock_38 : decode b_F_cleanBlock 38 = .ok (.getfield 16, 3) := by decide +kernel
theorem d_F_cleanBlock_41 : decode b_F_cleanBlock 41 = .ok (.iload_n 1, 1) := by decide +kernel
theorem d_F_cleanBlock_42 : decode b_F_cleanBlock 42 = .ok (.iload_n 2, 1) := by decide +kernel
theorem d_F_cleanBlock_43 : decode b_F_cleanBlock 43 = .ok (.invokestatic 114, 3) := by decide +kernel
theorem d_F_cleanBlock_46 : decode b_F_cleanBlock 46 = .ok (.iconst 0, 1) := by decide +kernel
theorem d_F_cleanBlock_47 : decode b_F_cleanBlock 47 = .ok (.iastore, 1) := by decide +kernel
theorem d_F_cleanBlock_48 : decode b_F_cleanBlock 48 = .ok (.iinc 2 1, 3) := by decide +kernel
theorem d_F_cleanBlock_51 : decode b_F_cleanBlock 51 = .ok (.goto (-19), 3) := by decide +kernel
theorem d_F_cleanBlock_54 : decode b_F_cleanBlock 54 = .ok (.return_, 1) := by decide +kernel
theorem d_F_encode_0 : decode b_F_encode 0 = .ok (.iload_n 1, 1) := by decide +kernel
theorem d_F_encode_1 : decode b_F_encode 1 = .ok (.ifCond .lt 9, 3) := by decide +kernel
theorem d_F_encode_4 : decode b_F_encode 4 = .ok (.iload_n 1, 1) := by decide +kernel
theorem d_F_encode_5 : decode b_F_encode 5 = .ok (.ldc 41, 2) := by decide +kernel
theorem d_F_encode_7 : decode b_F_encode 7 = .ok (.if_icmp .le 13, 3) := by decide +kernel
theorem d_F_encode_10 : decode b_F_encode 10 = .ok (.new 42, 3) := by decide +kernel
theorem d_F_encode_13 : decode b_F_encode 13 = .ok (.dup, 1) := by decide +kernel
theorem d_F_encode_14 : decode b_F_encode 14 = .ok (.ldc 44, 2) := by decide +kernel
theorem d_F_encode_16 : decode b_F_encode 16 = .ok (.invokespecial 46, 3) := by decide +kernel
theorem d_F_encode_19 : decode b_F_encode 19 = .ok (.athrow, 1) := by decide +kernel
theorem d_F_encode_20 : decode b_F_encode 20 = .ok (.iload_n 1, 1) := by decide +kernel
theorem d_F_encode_21 : decode b_F_encode 21 = .ok (.invokestatic 49, 3) := by decide +kernel
theorem d_F_encode_24 : decode b_F_encode 24 = .ok (.ireturn, 1) := by decide +kernel
theorem d_F_decode_0 : decode b_F_decode 0 = .ok (.iload_n 1, 1) := by decide +kernel
theorem d_F_decode_1 : decode b_F_decode 1 = .ok (.ifCond .ge 13, 3) := by decide +kernel
theorem d_F_decode_4 : decode b_F_decode 4 = .ok (.new 42, 3) := by decide +kernel
theorem d_F_decode_7 : decode b_F_decode 7 = .ok (.dup, 1) := by decide +kernel
theorem d_F_decode_8 : decode b_F_decode 8 = .ok (.ldc 53, 2) := by decide +kernel
theorem d_F_decode_10 : decode b_F_decode 10 = .ok (.invokespecial 46, 3) := by decide +kernel
theorem d_F_decode_13 : decode b_F_decode 13 = .ok (.athrow, 1) := by decide +kernel
theorem d_F_decode_14 : decode b_F_decode 14 = .ok (.iload_n 1, 1) := by decide +kernel
theorem d_F_decode_15 : decode b_F_decode 15 = .ok (.invokestatic 55, 3) := by decide +kernel
theorem d_F_decode_18 : decode b_F_decode 18 = .ok (.istore_n 2, 1) := by decide +kernel
theorem d_F_decode_19 : decode b_F_decode 19 = .ok (.iload_n 2, 1) := by decide +kernel
theorem d_F_decode_20 : decode b_F_decode 20 = .ok (.iconst (-1), 1) := by decide +kernel
theorem d_F_decode_21 : decode b_F_decode 21 = .ok (.if_icmp .ne 13, 3) := by decide +kernel
theorem d_F_decode_24 : decode b_F_decode 24 = .ok (.new 58, 3) := by decide +kernel
theorem d_F_decode_27 : decode b_F_decode 27 = .ok (.dup, 1) := by decide +kernel
theorem d_F_decode_28 : decode b_F_decode 28 = .ok (.ldc 60, 2) := by decide +kernel
theorem d_F_decode_30 : decode b_F_decode 30 = .ok (.invokespecial 62, 3) := by decide +kernel
theorem d_F_decode_33 : decode b_F_decode 33 = .ok (.athrow, 1) := by decide +kernel
theorem d_F_decode_34 : decode b_F_decode 34 = .ok (.aload_n 0, 1) := by decide +kernel
theorem d_F_decode_35 : decode b_F_decode 35 = .ok (.iload_n 1, 1) := by decide +kernel
theorem d_F_decode_36 : decode b_F_decode 36 = .ok (.iload_n 2, 1) := by decide +kernel
theorem d_F_decode_37 : decode b_F_decode 37 = .ok (.ixor, 1) := by decide +kernel
theorem d_F_decode_38 : decode b_F_decode 38 = .ok (.invokestatic 63, 3) := by decide +kernel
theorem d_F_decode_41 : decode b_F_decode 41 = .ok (.putfield 30, 3) := by decide +kernel
theorem d_F_decode_44 : decode b_F_decode 44 = .ok (.iload_n 2, 1) := by decide +kernel
theorem d_F_decode_45 : decode b_F_decode 45 = .ok (.invokestatic 68, 3) := by decide +kernel
theorem d_F_decode_48 : decode b_F_decode 48 = .ok (.ireturn, 1) := by decide +kernel
theorem d_F_mended_0 : decode b_F_mended 0 = .ok (.aload_n 0, 1) := by decide +kernel
theorem d_F_mended_1 : decode b_F_mended 1 = .ok (.getfield 30, 3) := by decide +kernel
theorem d_F_mended_4 : decode b_F_mended 4 = .ok (.ireturn, 1) := by decide +kernel
theorem d_F_write_0 : decode b_F_write 0 = .ok (.iload_n 1, 1) := by decide +kernel
theorem d_F_write_1 : decode b_F_write 1 = .ok (.invokestatic 71, 3) := by decide +kernel
theorem d_F_write_4 : decode b_F_write 4 = .ok (.iconst 0, 1) := by decide +kernel
theorem d_F_write_5 : decode b_F_write 5 = .ok (.istore 4, 2) := by decide +kernel
theorem d_F_write_7 : decode b_F_write 7 = .ok (.iload 4, 2) := by decide +kernel
theorem d_F_write_9 : decode b_F_write 9 = .ok (.bipush 16, 2) := by decide +kernel
theorem d_F_write_11 : decode b_F_write 11 = .ok (.if_icmp .ge 44, 3) := by decide +kernel
theorem d_F_write_14 : decode b_F_write 14 = .ok (.aload_n 0, 1) := by decide +kernel
theorem d_F_write_15 : decode b_F_write 15 = .ok (.invokevirtual 75, 3) := by decide +kernel
theorem d_F_write_18 : decode b_F_write 18 = .ok (.ifCond .ne 37, 3) := by decide +kernel
theorem d_F_write_21 : decode b_F_write 21 = .ok (.aload_n 0, 1) := by decide +kernel
theorem d_F_write_22 : decode b_F_write 22 = .ok (.invokevirtual 79, 3) := by decide +kernel
theorem d_F_write_25 : decode b_F_write 25 = .ok (.istore 5, 2) := by decide +kernel
theorem d_F_write_27 : decode b_F_write 27 = .ok (.iload 5, 2) := by decide +kernel
theorem d_F_write_29 : decode b_F_write 29 = .ok (.iconst (-1), 1) := by decide +kernel
theorem d_F_write_30 : decode b_F_write 30 = .ok (.if_icmp .ne 13, 3) := by decide +kernel
theorem d_F_write_33 : decode b_F_write 33 = .ok (.new 83, 3) := by decide +kernel
theorem d_F_write_36 : decode b_F_write 36 = .ok (.dup, 1) := by decide +kernel
theorem d_F_write_37 : decode b_F_write 37 = .ok (.ldc 85, 2) := by decide +kernel
theorem d_F_write_39 : decode b_F_write 39 = .ok (.invokespecial 87, 3) := by decide +kernel
theorem d_F_write_42 : decode b_F_write 42 = .ok (.athrow, 1) := by decide +kernel
theorem d_F_write_43 : decode b_F_write 43 = .ok (.aload_n 0, 1) := by decide +kernel
theorem d_F_write_44 : decode b_F_write 44 = .ok (.iload 5, 2) := by decide +kernel
theorem d_F_write_46 : decode b_F_write 46 = .ok (.invokevirtual 88, 3) := by decide +kernel
theorem d_F_write_49 : decode b_F_write 49 = .ok (.iinc 4 1, 3) := by decide +kernel
theorem d_F_write_52 : decode b_F_write 52 = .ok (.goto (-45), 3) := by decide +kernel
theorem d_F_write_55 : decode b_F_write 55 = .ok (.aload_n 0, 1) := by decide +kernel
theorem d_F_write_56 : decode b_F_write 56 = .ok (.iload_n 1, 1) := by decide +kernel
theorem d_F_write_57 : decode b_F_write 57 = .ok (.lload_n 2, 1) := by decide +kernel
theorem d_F_write_58 : decode b_F_write 58 = .ok (.iconst (-1), 1) := by decide +kernel
theorem d_F_write_59 : decode b_F_write 59 = .ok (.invokevirtual 91, 3) := by decide +kernel
theorem d_F_write_62 : decode b_F_write 62 = .ok (.return_, 1) := by decide +kernel
theorem d_F_read_0 : decode b_F_read 0 = .ok (.iload_n 1, 1) := by decide +kernel
theorem d_F_read_1 : decode b_F_read 1 = .ok (.invokestatic 71, 3) := by decide +kernel
theorem d_F_read_4 : decode b_F_read 4 = .ok (.aload_n 0, 1) := by decide +kernel
theorem d_F_read_5 : decode b_F_read 5 = .ok (.getfield 20, 3) := by decide +kernel
theorem d_F_read_8 : decode b_F_read 8 = .ok (.iload_n 1, 1) := by decide +kernel
theorem d_F_read_9 : decode b_F_read 9 = .ok (.iaload, 1) := by decide +kernel
theorem d_F_read_10 : decode b_F_read 10 = .ok (.istore_n 2, 1) := by decide +kernel
theorem d_F_read_11 : decode b_F_read 11 = .ok (.iload_n 2, 1) := by decide +kernel
theorem d_F_read_12 : decode b_F_read 12 = .ok (.iconst (-1), 1) := by decide +kernel
theorem d_F_read_13 : decode b_F_read 13 = .ok (.if_icmp .ne 13, 3) := by decide +kernel
theorem d_F_read_16 : decode b_F_read 16 = .ok (.new 83, 3) := by decide +kernel
theorem d_F_read_19 : decode b_F_read 19 = .ok (.dup, 1) := by decide +kernel
theorem d_F_read_20 : decode b_F_read 20 = .ok (.ldc 95, 2) := by decide +kernel
theorem d_F_read_22 : decode b_F_read 22 = .ok (.invokespecial 87, 3) := by decide +kernel
theorem d_F_read_25 : decode b_F_read 25 = .ok (.athrow, 1) := by decide +kernel
theorem d_F_read_26 : decode b_F_read 26 = .ok (.aload_n 0, 1) := by decide +kernel
theorem d_F_read_27 : decode b_F_read 27 = .ok (.getfield 12, 3) := by decide +kernel
theorem d_F_read_30 : decode b_F_read 30 = .ok (.iload_n 2, 1) := by decide +kernel
theorem d_F_read_31 : decode b_F_read 31 = .ok (.invokevirtual 97, 3) := by decide +kernel
theorem d_F_read_34 : decode b_F_read 34 = .ok (.ifCond .ne 13, 3) := by decide +kernel
theorem d_F_read_37 : decode b_F_read 37 = .ok (.new 58, 3) := by decide +kernel
theorem d_F_read_40 : decode b_F_read 40 = .ok (.dup, 1) := by decide +kernel
theorem d_F_read_41 : decode b_F_read 41 = .ok (.ldc 101, 2) := by decide +kernel
theorem d_F_read_43 : decode b_F_read 43 = .ok (.invokespecial 62, 3) := by decide +kernel
theorem d_F_read_46 : decode b_F_read 46 = .ok (.athrow, 1) := by decide +kernel
theorem d_F_read_47 : decode b_F_read 47 = .ok (.aload_n 0, 1) := by decide +kernel
theorem d_F_read_48 : decode b_F_read 48 = .ok (.getfield 12, 3) := by decide +kernel
theorem d_F_read_51 : decode b_F_read 51 = .ok (.iload_n 2, 1) := by decide +kernel
theorem d_F_read_52 : decode b_F_read 52 = .ok (.invokevirtual 103, 3) := by decide +kernel
theorem d_F_read_55 : decode b_F_read 55 = .ok (.lreturn, 1) := by decide +kernel
theorem d_F_trim_0 : decode b_F_trim 0 = .ok (.iload_n 1, 1) := by decide +kernel
theorem d_F_trim_1 : decode b_F_trim 1 = .ok (.invokestatic 71, 3) := by decide +kernel
theorem d_F_trim_4 : decode b_F_trim 4 = .ok (.aload_n 0, 1) := by decide +kernel
theorem d_F_trim_5 : decode b_F_trim 5 = .ok (.getfield 20, 3) := by decide +kernel
theorem d_F_trim_8 : decode b_F_trim 8 = .ok (.iload_n 1, 1) := by decide +kernel
theorem d_F_trim_9 : decode b_F_trim 9 = .ok (.iaload, 1) := by decide +kernel
theorem d_F_trim_10 : decode b_F_trim 10 = .ok (.iconst (-1), 1) := by decide +kernel
theorem d_F_trim_11 : decode b_F_trim 11 = .ok (.if_icmp .eq 7, 3) := by decide +kernel
theorem d_F_trim_14 : decode b_F_trim 14 = .ok (.iconst 1, 1) := by decide +kernel
theorem d_F_trim_15 : decode b_F_trim 15 = .ok (.goto 4, 3) := by decide +kernel
theorem d_F_trim_18 : decode b_F_trim 18 = .ok (.iconst 0, 1) := by decide +kernel
theorem d_F_trim_19 : decode b_F_trim 19 = .ok (.istore_n 2, 1) := by decide +kernel
theorem d_F_trim_20 : decode b_F_trim 20 = .ok (.aload_n 0, 1) := by decide +kernel
theorem d_F_trim_21 : decode b_F_trim 21 = .ok (.iload_n 1, 1) := by decide +kernel
theorem d_F_trim_22 : decode b_F_trim 22 = .ok (.invokevirtual 107, 3) := by decide +kernel
theorem d_F_trim_25 : decode b_F_trim 25 = .ok (.iload_n 2, 1) := by decide +kernel
theorem d_F_trim_26 : decode b_F_trim 26 = .ok (.ireturn, 1) := by decide +kernel
theorem d_F_spoil_0 : decode b_F_spoil 0 = .ok (.iload_n 1, 1) := by decide +kernel
theorem d_F_spoil_1 : decode b_F_spoil 1 = .ok (.iload_n 2, 1) := by decide +kernel
theorem d_F_spoil_2 : decode b_F_spoil 2 = .ok (.iload_n 3, 1) := by decide +kernel
theorem d_F_spoil_3 : decode b_F_spoil 3 = .ok (.invokestatic 110, 3) := by decide +kernel
theorem d_F_spoil_6 : decode b_F_spoil 6 = .ok (.iload 4, 2) := by decide +kernel
theorem d_F_spoil_8 : decode b_F_spoil 8 = .ok (.ifCond .ge 13, 3) := by decide +kernel
theorem d_F_spoil_11 : decode b_F_spoil 11 = .ok (.new 42, 3) := by decide +kernel
theorem d_F_spoil_14 : decode b_F_spoil 14 = .ok (.dup, 1) := by decide +kernel
theorem d_F_spoil_15 : decode b_F_spoil 15 = .ok (.ldc 53, 2) := by decide +kernel
theorem d_F_spoil_17 : decode b_F_spoil 17 = .ok (.invokespecial 46, 3) := by decide +kernel
theorem d_F_spoil_20 : decode b_F_spoil 20 = .ok (.athrow, 1) := by decide +kernel
theorem d_F_spoil_21 : decode b_F_spoil 21 = .ok (.aload_n 0, 1) := by decide +kernel
theorem d_F_spoil_22 : decode b_F_spoil 22 = .ok (.getfield 12, 3) := by decide +kernel
theorem d_F_spoil_25 : decode b_F_spoil 25 = .ok (.iload_n 1, 1) := by decide +kernel
theorem d_F_spoil_26 : decode b_F_spoil 26 = .ok (.iload_n 2, 1) := by decide +kernel
theorem d_F_spoil_27 : decode b_F_spoil 27 = .ok (.invokestatic 114, 3) := by decide +kernel
theorem d_F_spoil_30 : decode b_F_spoil 30 = .ok (.iload_n 3, 1) := by decide +kernel
theorem d_F_spoil_31 : decode b_F_spoil 31 = .ok (.iload 4, 2) := by decide +kernel
theorem d_F_spoil_33 : decode b_F_spoil 33 = .ok (.invokevirtual 118, 3) := by decide +kernel
theorem d_F_spoil_36 : decode b_F_spoil 36 = .ok (.return_, 1) := by decide +kernel
theorem d_F_flash_0 : decode b_F_flash 0 = .ok (.iload_n 1, 1) := by decide +kernel
theorem d_F_flash_1 : decode b_F_flash 1 = .ok (.iload_n 2, 1) := by decide +kernel
theorem d_F_flash_2 : decode b_F_flash 2 = .ok (.iload_n 3, 1) := by decide +kernel
theorem d_F_flash_3 : decode b_F_flash 3 = .ok (.invokestatic 110, 3) := by decide +kernel
theorem d_F_flash_6 : decode b_F_flash 6 = .ok (.aload_n 0, 1) := by decide +kernel
theorem d_F_flash_7 : decode b_F_flash 7 = .ok (.getfield 12, 3) := by decide +kernel
theorem d_F_flash_10 : decode b_F_flash 10 = .ok (.iload_n 1, 1) := by decide +kernel
theorem d_F_flash_11 : decode b_F_flash 11 = .ok (.iload_n 2, 1) := by decide +kernel
theorem d_F_flash_12 : decode b_F_flash 12 = .ok (.invokestatic 114, 3) := by decide +kernel
theorem d_F_flash_15 : decode b_F_flash 15 = .ok (.iload_n 3, 1) := by decide +kernel
theorem d_F_flash_16 : decode b_F_flash 16 = .ok (.invokevirtual 121, 3) := by decide +kernel
theorem d_F_flash_19 : decode b_F_flash 19 = .ok (.ireturn, 1) := by decide +kernel
theorem d_F_mount_0 : decode b_F_mount 0 = .ok (.aload_n 0, 1) := by decide +kernel
theorem d_F_mount_1 : decode b_F_mount 1 = .ok (.getfield 20, 3) := by decide +kernel
theorem d_F_mount_4 : decode b_F_mount 4 = .ok (.iconst (-1), 1) := by decide +kernel
theorem d_F_mount_5 : decode b_F_mount 5 = .ok (.invokestatic 33, 3) := by decide +kernel
theorem d_F_mount_8 : decode b_F_mount 8 = .ok (.iconst (-1), 1) := by decide +kernel
theorem d_F_mount_9 : decode b_F_mount 9 = .ok (.istore_n 1, 1) := by decide +kernel
theorem d_F_mount_10 : decode b_F_mount 10 = .ok (.iconst 0, 1) := by decide +kernel
theorem d_F_mount_11 : decode b_F_mount 11 = .ok (.istore_n 2, 1) := by decide +kernel
theorem d_F_mount_12 : decode b_F_mount 12 = .ok (.iload_n 2, 1) := by decide +kernel
theorem d_F_mount_13 : decode b_F_mount 13 = .ok (.bipush 16, 2) := by decide +kernel
theorem d_F_mount_15 : decode b_F_mount 15 = .ok (.if_icmp .ge 90, 3) := by decide +kernel
theorem d_F_mount_18 : decode b_F_mount 18 = .ok (.aload_n 0, 1) := by decide +kernel
theorem d_F_mount_19 : decode b_F_mount 19 = .ok (.getfield 12, 3) := by decide +kernel
theorem d_F_mount_22 : decode b_F_mount 22 = .ok (.iload_n 2, 1) := by decide +kernel
theorem d_F_mount_23 : decode b_F_mount 23 = .ok (.invokevirtual 124, 3) := by decide +kernel
theorem d_F_mount_26 : decode b_F_mount 26 = .ok (.istore_n 3, 1) := by decide +kernel
theorem d_F_mount_27 : decode b_F_mount 27 = .ok (.iload_n 3, 1) := by decide +kernel
theorem d_F_mount_28 : decode b_F_mount 28 = .ok (.ldc 41, 2) := by decide +kernel
theorem d_F_mount_30 : decode b_F_mount 30 = .ok (.if_icmp .ne 13, 3) := by decide +kernel
theorem d_F_mount_33 : decode b_F_mount 33 = .ok (.aload_n 0, 1) := by decide +kernel
theorem d_F_mount_34 : decode b_F_mount 34 = .ok (.getfield 16, 3) := by decide +kernel
theorem d_F_mount_37 : decode b_F_mount 37 = .ok (.iload_n 2, 1) := by decide +kernel
theorem d_F_mount_38 : decode b_F_mount 38 = .ok (.iconst 0, 1) := by decide +kernel
theorem d_F_mount_39 : decode b_F_mount 39 = .ok (.iastore, 1) := by decide +kernel
theorem d_F_mount_40 : decode b_F_mount 40 = .ok (.goto 59, 3) := by decide +kernel
theorem d_F_mount_43 : decode b_F_mount 43 = .ok (.iload_n 3, 1) := by decide +kernel
theorem d_F_mount_44 : decode b_F_mount 44 = .ok (.invokestatic 127, 3) := by decide +kernel
theorem d_F_mount_47 : decode b_F_mount 47 = .ok (.ifCond .eq 13, 3) := by decide +kernel
theorem d_F_mount_50 : decode b_F_mount 50 = .ok (.aload_n 0, 1) := by decide +kernel
theorem d_F_mount_51 : decode b_F_mount 51 = .ok (.getfield 16, 3) := by decide +kernel
theorem d_F_mount_54 : decode b_F_mount 54 = .ok (.iload_n 2, 1) := by decide +kernel
theorem d_F_mount_55 : decode b_F_mount 55 = .ok (.iconst 2, 1) := by decide +kernel
theorem d_F_mount_56 : decode b_F_mount 56 = .ok (.iastore, 1) := by decide +kernel
theorem d_F_mount_57 : decode b_F_mount 57 = .ok (.goto 42, 3) := by decide +kernel
theorem d_F_mount_60 : decode b_F_mount 60 = .ok (.iload_n 3, 1) := by decide +kernel
theorem d_F_mount_61 : decode b_F_mount 61 = .ok (.sipush 4095, 3) := by decide +kernel
theorem d_F_mount_64 : decode b_F_mount 64 = .ok (.iand, 1) := by decide +kernel
theorem d_F_mount_65 : decode b_F_mount 65 = .ok (.istore 4, 2) := by decide +kernel
theorem d_F_mount_67 : decode b_F_mount 67 = .ok (.aload_n 0, 1) := by decide +kernel
theorem d_F_mount_68 : decode b_F_mount 68 = .ok (.iload_n 2, 1) := by decide +kernel
theorem d_F_mount_69 : decode b_F_mount 69 = .ok (.iload_n 3, 1) := by decide +kernel
theorem d_F_mount_70 : decode b_F_mount 70 = .ok (.bipush 12, 2) := by decide +kernel
theorem d_F_mount_72 : decode b_F_mount 72 = .ok (.iushr, 1) := by decide +kernel
theorem d_F_mount_73 : decode b_F_mount 73 = .ok (.iload 4, 2) := by decide +kernel
theorem d_F_mount_75 : decode b_F_mount 75 = .ok (.invokevirtual 130, 3) := by decide +kernel
theorem d_F_mount_78 : decode b_F_mount 78 = .ok (.iload_n 1, 1) := by decide +kernel
theorem d_F_mount_79 : decode b_F_mount 79 = .ok (.iconst (-1), 1) := by decide +kernel
theorem d_F_mount_80 : decode b_F_mount 80 = .ok (.if_icmp .eq 12, 3) := by decide +kernel
theorem d_F_mount_83 : decode b_F_mount 83 = .ok (.iload 4, 2) := by decide +kernel
theorem d_F_mount_85 : decode b_F_mount 85 = .ok (.iload_n 1, 1) := by decide +kernel
theorem d_F_mount_86 : decode b_F_mount 86 = .ok (.invokestatic 133, 3) := by decide +kernel
theorem d_F_mount_89 : decode b_F_mount 89 = .ok (.ifCond .eq 8, 3) := by decide +kernel
theorem d_F_mount_92 : decode b_F_mount 92 = .ok (.iload 4, 2) := by decide +kernel
theorem d_F_mount_94 : decode b_F_mount 94 = .ok (.goto 4, 3) := by decide +kernel
theorem d_F_mount_97 : decode b_F_mount 97 = .ok (.iload_n 1, 1) := by decide +kernel
theorem d_F_mount_98 : decode b_F_mount 98 = .ok (.istore_n 1, 1) := by decide +kernel
theorem d_F_mount_99 : decode b_F_mount 99 = .ok (.iinc 2 1, 3) := by decide +kernel
theorem d_F_mount_102 : decode b_F_mount 102 = .ok (.goto (-90), 3) := by decide +kernel
theorem d_F_mount_105 : decode b_F_mount 105 = .ok (.aload_n 0, 1) := by decide +kernel
theorem d_F_mount_106 : decode b_F_mount 106 = .ok (.iload_n 1, 1) := by decide +kernel
theorem d_F_mount_107 : decode b_F_mount 107 = .ok (.iconst (-1), 1) := by decide +kernel
theorem d_F_mount_108 : decode b_F_mount 108 = .ok (.if_icmp .ne 7, 3) := by decide +kernel
theorem d_F_mount_111 : decode b_F_mount 111 = .ok (.iconst 0, 1) := by decide +kernel
theorem d_F_mount_112 : decode b_F_mount 112 = .ok (.goto 7, 3) := by decide +kernel
theorem d_F_mount_115 : decode b_F_mount 115 = .ok (.iload_n 1, 1) := by decide +kernel
theorem d_F_mount_116 : decode b_F_mount 116 = .ok (.invokestatic 137, 3) := by decide +kernel
theorem d_F_mount_119 : decode b_F_mount 119 = .ok (.putfield 26, 3) := by decide +kernel
theorem d_F_mount_122 : decode b_F_mount 122 = .ok (.aload_n 0, 1) := by decide +kernel
theorem d_F_mount_123 : decode b_F_mount 123 = .ok (.invokevirtual 140, 3) := by decide +kernel
theorem d_F_mount_126 : decode b_F_mount 126 = .ok (.ireturn, 1) := by decide +kernel
theorem d_F_clean_0 : decode b_F_clean 0 = .ok (.aload_n 0, 1) := by decide +kernel
theorem d_F_clean_1 : decode b_F_clean 1 = .ok (.invokevirtual 79, 3) := by decide +kernel
theorem d_F_clean_4 : decode b_F_clean 4 = .ok (.istore_n 1, 1) := by decide +kernel
theorem d_F_clean_5 : decode b_F_clean 5 = .ok (.iload_n 1, 1) := by decide +kernel
theorem d_F_clean_6 : decode b_F_clean 6 = .ok (.iconst (-1), 1) := by decide +kernel
theorem d_F_clean_7 : decode b_F_clean 7 = .ok (.if_icmp .ne 13, 3) := by decide +kernel
theorem d_F_clean_10 : decode b_F_clean 10 = .ok (.new 83, 3) := by decide +kernel
theorem d_F_clean_13 : decode b_F_clean 13 = .ok (.dup, 1) := by decide +kernel
theorem d_F_clean_14 : decode b_F_clean 14 = .ok (.ldc 143, 2) := by decide +kernel
theorem d_F_clean_16 : decode b_F_clean 16 = .ok (.invokespecial 87, 3) := by decide +kernel
theorem d_F_clean_19 : decode b_F_clean 19 = .ok (.athrow, 1) := by decide +kernel
theorem d_F_clean_20 : decode b_F_clean 20 = .ok (.aload_n 0, 1) := by decide +kernel
theorem d_F_clean_21 : decode b_F_clean 21 = .ok (.iload_n 1, 1) := by decide +kernel
theorem d_F_clean_22 : decode b_F_clean 22 = .ok (.invokevirtual 88, 3) := by decide +kernel
theorem d_F_clean_25 : decode b_F_clean 25 = .ok (.iload_n 1, 1) := by decide +kernel
theorem d_F_clean_26 : decode b_F_clean 26 = .ok (.ireturn, 1) := by decide +kernel
theorem d_F_place_0 : decode b_F_place 0 = .ok (.iload_n 1, 1) := by decide +kernel
theorem d_F_place_1 : decode b_F_place 1 = .ok (.invokestatic 71, 3) := by decide +kernel
theorem d_F_place_4 : decode b_F_place 4 = .ok (.aload_n 0, 1) := by decide +kernel
theorem d_F_place_5 : decode b_F_place 5 = .ok (.getfield 20, 3) := by decide +kernel
theorem d_F_place_8 : decode b_F_place 8 = .ok (.iload_n 1, 1) := by decide +kernel
theorem d_F_place_9 : decode b_F_place 9 = .ok (.iaload, 1) := by decide +kernel
theorem d_F_place_10 : decode b_F_place 10 = .ok (.ireturn, 1) := by decide +kernel
theorem d_F_state_0 : decode b_F_state 0 = .ok (.iload_n 1, 1) := by decide +kernel
theorem d_F_state_1 : decode b_F_state 1 = .ok (.invokestatic 145, 3) := by decide +kernel
theorem d_F_state_4 : decode b_F_state 4 = .ok (.iload_n 2, 1) := by decide +kernel
theorem d_F_state_5 : decode b_F_state 5 = .ok (.invokestatic 148, 3) := by decide +kernel
theorem d_F_state_8 : decode b_F_state 8 = .ok (.aload_n 0, 1) := by decide +kernel
theorem d_F_state_9 : decode b_F_state 9 = .ok (.getfield 16, 3) := by decide +kernel
theorem d_F_state_12 : decode b_F_state 12 = .ok (.iload_n 1, 1) := by decide +kernel
theorem d_F_state_13 : decode b_F_state 13 = .ok (.iload_n 2, 1) := by decide +kernel
theorem d_F_state_14 : decode b_F_state 14 = .ok (.invokestatic 114, 3) := by decide +kernel
theorem d_F_state_17 : decode b_F_state 17 = .ok (.iaload, 1) := by decide +kernel
theorem d_F_state_18 : decode b_F_state 18 = .ok (.ireturn, 1) := by decide +kernel
theorem d_F_wear_0 : decode b_F_wear 0 = .ok (.iload_n 1, 1) := by decide +kernel
theorem d_F_wear_1 : decode b_F_wear 1 = .ok (.invokestatic 145, 3) := by decide +kernel
theorem d_F_wear_4 : decode b_F_wear 4 = .ok (.aload_n 0, 1) := by decide +kernel
theorem d_F_wear_5 : decode b_F_wear 5 = .ok (.getfield 12, 3) := by decide +kernel
theorem d_F_wear_8 : decode b_F_wear 8 = .ok (.iload_n 1, 1) := by decide +kernel
theorem d_F_wear_9 : decode b_F_wear 9 = .ok (.invokevirtual 151, 3) := by decide +kernel
theorem d_F_wear_12 : decode b_F_wear 12 = .ok (.ireturn, 1) := by decide +kernel
theorem d_F_serial_0 : decode b_F_serial 0 = .ok (.aload_n 0, 1) := by decide +kernel
theorem d_F_serial_1 : decode b_F_serial 1 = .ok (.getfield 26, 3) := by decide +kernel
theorem d_F_serial_4 : decode b_F_serial 4 = .ok (.ireturn, 1) := by decide +kernel
end
section
theorem d_R_out_0 : decode b_R_out 0 = .ok (.iload_n 0, 1) := by decide +kernel
theorem d_R_out_1 : decode b_R_out 1 = .ok (.ifCond .lt 8, 3) := by decide +kernel
theorem d_R_out_4 : decode b_R_out 4 = .ok (.iload_n 0, 1) := by decide +kernel
theorem d_R_out_5 : decode b_R_out 5 = .ok (.iload_n 1, 1) := by decide +kernel
theorem d_R_out_6 : decode b_R_out 6 = .ok (.if_icmp .lt 7, 3) := by decide +kernel
theorem d_R_out_9 : decode b_R_out 9 = .ok (.iconst 1, 1) := by decide +kernel
theorem d_R_out_10 : decode b_R_out 10 = .ok (.goto 4, 3) := by decide +kernel
theorem d_R_out_13 : decode b_R_out 13 = .ok (.iconst 0, 1) := by decide +kernel
theorem d_R_out_14 : decode b_R_out 14 = .ok (.ireturn, 1) := by decide +kernel
theorem d_R_newer_0 : decode b_R_newer 0 = .ok (.iload_n 0, 1) := by decide +kernel
theorem d_R_newer_1 : decode b_R_newer 1 = .ok (.iload_n 1, 1) := by decide +kernel
theorem d_R_newer_2 : decode b_R_newer 2 = .ok (.if_icmp .lt 9, 3) := by decide +kernel
theorem d_R_newer_5 : decode b_R_newer 5 = .ok (.iload_n 0, 1) := by decide +kernel
theorem d_R_newer_6 : decode b_R_newer 6 = .ok (.iload_n 1, 1) := by decide +kernel
theorem d_R_newer_7 : decode b_R_newer 7 = .ok (.isub, 1) := by decide +kernel
theorem d_R_newer_8 : decode b_R_newer 8 = .ok (.goto 10, 3) := by decide +kernel
theorem d_R_newer_11 : decode b_R_newer 11 = .ok (.iload_n 0, 1) := by decide +kernel
theorem d_R_newer_12 : decode b_R_newer 12 = .ok (.iload_n 1, 1) := by decide +kernel
theorem d_R_newer_13 : decode b_R_newer 13 = .ok (.isub, 1) := by decide +kernel
theorem d_R_newer_14 : decode b_R_newer 14 = .ok (.sipush 4095, 3) := by decide +kernel
theorem d_R_newer_17 : decode b_R_newer 17 = .ok (.iadd, 1) := by decide +kernel
theorem d_R_newer_18 : decode b_R_newer 18 = .ok (.istore_n 2, 1) := by decide +kernel
theorem d_R_newer_19 : decode b_R_newer 19 = .ok (.iload_n 2, 1) := by decide +kernel
theorem d_R_newer_20 : decode b_R_newer 20 = .ok (.sipush 4095, 3) := by decide +kernel
theorem d_R_newer_23 : decode b_R_newer 23 = .ok (.if_icmp .ne 7, 3) := by decide +kernel
theorem d_R_newer_26 : decode b_R_newer 26 = .ok (.iconst 0, 1) := by decide +kernel
theorem d_R_newer_27 : decode b_R_newer 27 = .ok (.goto 4, 3) := by decide +kernel
theorem d_R_newer_30 : decode b_R_newer 30 = .ok (.iload_n 2, 1) := by decide +kernel
theorem d_R_newer_31 : decode b_R_newer 31 = .ok (.istore_n 2, 1) := by decide +kernel
theorem d_R_newer_32 : decode b_R_newer 32 = .ok (.iload_n 2, 1) := by decide +kernel
theorem d_R_newer_33 : decode b_R_newer 33 = .ok (.ifCond .le 14, 3) := by decide +kernel
theorem d_R_newer_36 : decode b_R_newer 36 = .ok (.iload_n 2, 1) := by decide +kernel
theorem d_R_newer_37 : decode b_R_newer 37 = .ok (.sipush 2000, 3) := by decide +kernel
theorem d_R_newer_40 : decode b_R_newer 40 = .ok (.if_icmp .gt 7, 3) := by decide +kernel
theorem d_R_newer_43 : decode b_R_newer 43 = .ok (.iconst 1, 1) := by decide +kernel
theorem d_R_newer_44 : decode b_R_newer 44 = .ok (.goto 4, 3) := by decide +kernel
theorem d_R_newer_47 : decode b_R_newer 47 = .ok (.iconst 0, 1) := by decide +kernel
theorem d_R_newer_48 : decode b_R_newer 48 = .ok (.ireturn, 1) := by decide +kernel
theorem d_R_isPage_0 : decode b_R_isPage 0 = .ok (.iload_n 0, 1) := by decide +kernel
theorem d_R_isPage_1 : decode b_R_isPage 1 = .ok (.iconst 4, 1) := by decide +kernel
theorem d_R_isPage_2 : decode b_R_isPage 2 = .ok (.invokestatic 46, 3) := by decide +kernel
theorem d_R_isPage_5 : decode b_R_isPage 5 = .ok (.ifCond .ne 15, 3) := by decide +kernel
theorem d_R_isPage_8 : decode b_R_isPage 8 = .ok (.iload_n 1, 1) := by decide +kernel
theorem d_R_isPage_9 : decode b_R_isPage 9 = .ok (.iconst 4, 1) := by decide +kernel
theorem d_R_isPage_10 : decode b_R_isPage 10 = .ok (.invokestatic 46, 3) := by decide +kernel
theorem d_R_isPage_13 : decode b_R_isPage 13 = .ok (.ifCond .ne 7, 3) := by decide +kernel
theorem d_R_isPage_16 : decode b_R_isPage 16 = .ok (.iconst 1, 1) := by decide +kernel
theorem d_R_isPage_17 : decode b_R_isPage 17 = .ok (.goto 4, 3) := by decide +kernel
theorem d_R_isPage_20 : decode b_R_isPage 20 = .ok (.iconst 0, 1) := by decide +kernel
theorem d_R_isPage_21 : decode b_R_isPage 21 = .ok (.ireturn, 1) := by decide +kernel
theorem d_R_thrown_0 : decode b_R_thrown 0 = .ok (.aload_n 0, 1) := by decide +kernel
theorem d_R_thrown_1 : decode b_R_thrown 1 = .ok (.getfield 33, 3) := by decide +kernel
theorem d_R_thrown_4 : decode b_R_thrown 4 = .ok (.ireturn, 1) := by decide +kernel
theorem d_R_fail_0 : decode b_R_fail 0 = .ok (.aload_n 0, 1) := by decide +kernel
theorem d_R_fail_1 : decode b_R_fail 1 = .ok (.iload_n 1, 1) := by decide +kernel
theorem d_R_fail_2 : decode b_R_fail 2 = .ok (.putfield 33, 3) := by decide +kernel
theorem d_R_fail_5 : decode b_R_fail 5 = .ok (.iconst 0, 1) := by decide +kernel
theorem d_R_fail_6 : decode b_R_fail 6 = .ok (.ireturn, 1) := by decide +kernel
theorem d_R_left_0 : decode b_R_left 0 = .ok (.iconst 0, 1) := by decide +kernel
theorem d_R_left_1 : decode b_R_left 1 = .ok (.istore_n 2, 1) := by decide +kernel
theorem d_R_left_2 : decode b_R_left 2 = .ok (.iconst 0, 1) := by decide +kernel
theorem d_R_left_3 : decode b_R_left 3 = .ok (.istore_n 3, 1) := by decide +kernel
theorem d_R_left_4 : decode b_R_left 4 = .ok (.iload_n 3, 1) := by decide +kernel
theorem d_R_left_5 : decode b_R_left 5 = .ok (.bipush 31, 2) := by decide +kernel
theorem d_R_left_7 : decode b_R_left 7 = .ok (.if_icmp .ge 27, 3) := by decide +kernel
theorem d_R_left_10 : decode b_R_left 10 = .ok (.iload_n 1, 1) := by decide +kernel
theorem d_R_left_11 : decode b_R_left 11 = .ok (.iload_n 3, 1) := by decide +kernel
theorem d_R_left_12 : decode b_R_left 12 = .ok (.ishr, 1) := by decide +kernel
theorem d_R_left_13 : decode b_R_left 13 = .ok (.iconst 1, 1) := by decide +kernel
theorem d_R_left_14 : decode b_R_left 14 = .ok (.iand, 1) := by decide +kernel
theorem d_R_left_15 : decode b_R_left 15 = .ok (.iconst 1, 1) := by decide +kernel
theorem d_R_left_16 : decode b_R_left 16 = .ok (.if_icmp .ne 12, 3) := by decide +kernel
theorem d_R_left_19 : decode b_R_left 19 = .ok (.iload_n 2, 1) := by decide +kernel
theorem d_R_left_20 : decode b_R_left 20 = .ok (.aload_n 0, 1) := by decide +kernel
theorem d_R_left_21 : decode b_R_left 21 = .ok (.getfield 7, 3) := by decide +kernel
theorem d_R_left_24 : decode b_R_left 24 = .ok (.iload_n 3, 1) := by decide +kernel
theorem d_R_left_25 : decode b_R_left 25 = .ok (.iaload, 1) := by decide +kernel
theorem d_R_left_26 : decode b_R_left 26 = .ok (.ixor, 1) := by decide +kernel
theorem d_R_left_27 : decode b_R_left 27 = .ok (.istore_n 2, 1) := by decide +kernel
theorem d_R_left_28 : decode b_R_left 28 = .ok (.iinc 3 1, 3) := by decide +kernel
theorem d_R_left_31 : decode b_R_left 31 = .ok (.goto (-27), 3) := by decide +kernel
theorem d_R_left_34 : decode b_R_left 34 = .ok (.iload_n 2, 1) := by decide +kernel
theorem d_R_left_35 : decode b_R_left 35 = .ok (.ireturn, 1) := by decide +kernel
theorem d_R_codeword_0 : decode b_R_codeword 0 = .ok (.ldc 37, 2) := by decide +kernel
theorem d_R_codeword_2 : decode b_R_codeword 2 = .ok (.iload_n 1, 1) := by decide +kernel
theorem d_R_codeword_3 : decode b_R_codeword 3 = .ok (.imul, 1) := by decide +kernel
theorem d_R_codeword_4 : decode b_R_codeword 4 = .ok (.aload_n 0, 1) := by decide +kernel
theorem d_R_codeword_5 : decode b_R_codeword 5 = .ok (.ldc 37, 2) := by decide +kernel
theorem d_R_codeword_7 : decode b_R_codeword 7 = .ok (.iload_n 1, 1) := by decide +kernel
theorem d_R_codeword_8 : decode b_R_codeword 8 = .ok (.imul, 1) := by decide +kernel
theorem d_R_codeword_9 : decode b_R_codeword 9 = .ok (.invokevirtual 38, 3) := by decide +kernel
theorem d_R_codeword_12 : decode b_R_codeword 12 = .ok (.iadd, 1) := by decide +kernel
theorem d_R_codeword_13 : decode b_R_codeword 13 = .ok (.ireturn, 1) := by decide +kernel
theorem d_R_dataOf_0 : decode b_R_dataOf 0 = .ok (.aload_n 0, 1) := by decide +kernel
theorem d_R_dataOf_1 : decode b_R_dataOf 1 = .ok (.iload_n 1, 1) := by decide +kernel
theorem d_R_dataOf_2 : decode b_R_dataOf 2 = .ok (.invokevirtual 38, 3) := by decide +kernel
theorem d_R_dataOf_5 : decode b_R_dataOf 5 = .ok (.istore_n 2, 1) := by decide +kernel
theorem d_R_dataOf_6 : decode b_R_dataOf 6 = .ok (.aload_n 0, 1) := by decide +kernel
theorem d_R_dataOf_7 : decode b_R_dataOf 7 = .ok (.iconst 0, 1) := by decide +kernel
theorem d_R_dataOf_8 : decode b_R_dataOf 8 = .ok (.putfield 42, 3) := by decide +kernel
theorem d_R_dataOf_11 : decode b_R_dataOf 11 = .ok (.iload_n 2, 1) := by decide +kernel
theorem d_R_dataOf_12 : decode b_R_dataOf 12 = .ok (.ifCond .ne 8, 3) := by decide +kernel
theorem d_R_dataOf_15 : decode b_R_dataOf 15 = .ok (.iload_n 1, 1) := by decide +kernel
theorem d_R_dataOf_16 : decode b_R_dataOf 16 = .ok (.bipush 15, 2) := by decide +kernel
theorem d_R_dataOf_18 : decode b_R_dataOf 18 = .ok (.ishr, 1) := by decide +kernel
theorem d_R_dataOf_19 : decode b_R_dataOf 19 = .ok (.ireturn, 1) := by decide +kernel
theorem d_R_dataOf_20 : decode b_R_dataOf 20 = .ok (.iconst 0, 1) := by decide +kernel
theorem d_R_dataOf_21 : decode b_R_dataOf 21 = .ok (.istore_n 3, 1) := by decide +kernel
theorem d_R_dataOf_22 : decode b_R_dataOf 22 = .ok (.iload_n 3, 1) := by decide +kernel
theorem d_R_dataOf_23 : decode b_R_dataOf 23 = .ok (.bipush 31, 2) := by decide +kernel
theorem d_R_dataOf_25 : decode b_R_dataOf 25 = .ok (.if_icmp .ge 33, 3) := by decide +kernel
theorem d_R_dataOf_28 : decode b_R_dataOf 28 = .ok (.aload_n 0, 1) := by decide +kernel
theorem d_R_dataOf_29 : decode b_R_dataOf 29 = .ok (.getfield 7, 3) := by decide +kernel
theorem d_R_dataOf_32 : decode b_R_dataOf 32 = .ok (.iload_n 3, 1) := by decide +kernel
theorem d_R_dataOf_33 : decode b_R_dataOf 33 = .ok (.iaload, 1) := by decide +kernel
theorem d_R_dataOf_34 : decode b_R_dataOf 34 = .ok (.iload_n 2, 1) := by decide +kernel
theorem d_R_dataOf_35 : decode b_R_dataOf 35 = .ok (.if_icmp .ne 17, 3) := by decide +kernel
theorem d_R_dataOf_38 : decode b_R_dataOf 38 = .ok (.aload_n 0, 1) := by decide +kernel
theorem d_R_dataOf_39 : decode b_R_dataOf 39 = .ok (.iconst 1, 1) := by decide +kernel
theorem d_R_dataOf_40 : decode b_R_dataOf 40 = .ok (.putfield 42, 3) := by decide +kernel
theorem d_R_dataOf_43 : decode b_R_dataOf 43 = .ok (.iload_n 1, 1) := by decide +kernel
theorem d_R_dataOf_44 : decode b_R_dataOf 44 = .ok (.iconst 1, 1) := by decide +kernel
theorem d_R_dataOf_45 : decode b_R_dataOf 45 = .ok (.iload_n 3, 1) := by decide +kernel
theorem d_R_dataOf_46 : decode b_R_dataOf 46 = .ok (.ishl, 1) := by decide +kernel
theorem d_R_dataOf_47 : decode b_R_dataOf 47 = .ok (.ixor, 1) := by decide +kernel
theorem d_R_dataOf_48 : decode b_R_dataOf 48 = .ok (.bipush 15, 2) := by decide +kernel
theorem d_R_dataOf_50 : decode b_R_dataOf 50 = .ok (.ishr, 1) := by decide +kernel
theorem d_R_dataOf_51 : decode b_R_dataOf 51 = .ok (.ireturn, 1) := by decide +kernel
theorem d_R_dataOf_52 : decode b_R_dataOf 52 = .ok (.iinc 3 1, 3) := by decide +kernel
theorem d_R_dataOf_55 : decode b_R_dataOf 55 = .ok (.goto (-33), 3) := by decide +kernel
theorem d_R_dataOf_58 : decode b_R_dataOf 58 = .ok (.iconst 0, 1) := by decide +kernel
theorem d_R_dataOf_59 : decode b_R_dataOf 59 = .ok (.istore_n 3, 1) := by decide +kernel
theorem d_R_dataOf_60 : decode b_R_dataOf 60 = .ok (.iload_n 3, 1) := by decide +kernel
theorem d_R_dataOf_61 : decode b_R_dataOf 61 = .ok (.bipush 31, 2) := by decide +kernel
theorem d_R_dataOf_63 : decode b_R_dataOf 63 = .ok (.if_icmp .ge 61, 3) := by decide +kernel
theorem d_R_dataOf_66 : decode b_R_dataOf 66 = .ok (.iconst 0, 1) := by decide +kernel
theorem d_R_dataOf_67 : decode b_R_dataOf 67 = .ok (.istore 4, 2) := by decide +kernel
theorem d_R_dataOf_69 : decode b_R_dataOf 69 = .ok (.iload 4, 2) := by decide +kernel
theorem d_R_dataOf_71 : decode b_R_dataOf 71 = .ok (.iload_n 3, 1) := by decide +kernel
theorem d_R_dataOf_72 : decode b_R_dataOf 72 = .ok (.if_icmp .ge 46, 3) := by decide +kernel
theorem d_R_dataOf_75 : decode b_R_dataOf 75 = .ok (.aload_n 0, 1) := by decide +kernel
theorem d_R_dataOf_76 : decode b_R_dataOf 76 = .ok (.getfield 7, 3) := by decide +kernel
theorem d_R_dataOf_79 : decode b_R_dataOf 79 = .ok (.iload_n 3, 1) := by decide +kernel
theorem d_R_dataOf_80 : decode b_R_dataOf 80 = .ok (.iaload, 1) := by decide +kernel
theorem d_R_dataOf_81 : decode b_R_dataOf 81 = .ok (.aload_n 0, 1) := by decide +kernel
theorem d_R_dataOf_82 : decode b_R_dataOf 82 = .ok (.getfield 7, 3) := by decide +kernel
theorem d_R_dataOf_85 : decode b_R_dataOf 85 = .ok (.iload 4, 2) := by decide +kernel
theorem d_R_dataOf_87 : decode b_R_dataOf 87 = .ok (.iaload, 1) := by decide +kernel
theorem d_R_dataOf_88 : decode b_R_dataOf 88 = .ok (.ixor, 1) := by decide +kernel
theorem d_R_dataOf_89 : decode b_R_dataOf 89 = .ok (.iload_n 2, 1) := by decide +kernel
theorem d_R_dataOf_90 : decode b_R_dataOf 90 = .ok (.if_icmp .ne 22, 3) := by decide +kernel
theorem d_R_dataOf_93 : decode b_R_dataOf 93 = .ok (.aload_n 0, 1) := by decide +kernel
theorem d_R_dataOf_94 : decode b_R_dataOf 94 = .ok (.iconst 2, 1) := by decide +kernel
theorem d_R_dataOf_95 : decode b_R_dataOf 95 = .ok (.putfield 42, 3) := by decide +kernel
theorem d_R_dataOf_98 : decode b_R_dataOf 98 = .ok (.iload_n 1, 1) := by decide +kernel
theorem d_R_dataOf_99 : decode b_R_dataOf 99 = .ok (.iconst 1, 1) := by decide +kernel
theorem d_R_dataOf_100 : decode b_R_dataOf 100 = .ok (.iload_n 3, 1) := by decide +kernel
theorem d_R_dataOf_101 : decode b_R_dataOf 101 = .ok (.ishl, 1) := by decide +kernel
theorem d_R_dataOf_102 : decode b_R_dataOf 102 = .ok (.ixor, 1) := by decide +kernel
theorem d_R_dataOf_103 : decode b_R_dataOf 103 = .ok (.iconst 1, 1) := by decide +kernel
theorem d_R_dataOf_104 : decode b_R_dataOf 104 = .ok (.iload 4, 2) := by decide +kernel
theorem d_R_dataOf_106 : decode b_R_dataOf 106 = .ok (.ishl, 1) := by decide +kernel
theorem d_R_dataOf_107 : decode b_R_dataOf 107 = .ok (.ixor, 1) := by decide +kernel
theorem d_R_dataOf_108 : decode b_R_dataOf 108 = .ok (.bipush 15, 2) := by decide +kernel
theorem d_R_dataOf_110 : decode b_R_dataOf 110 = .ok (.ishr, 1) := by decide +kernel
theorem d_R_dataOf_111 : decode b_R_dataOf 111 = .ok (.ireturn, 1) := by decide +kernel
theorem d_R_dataOf_112 : decode b_R_dataOf 112 = .ok (.iinc 4 1, 3) := by decide +kernel
theorem d_R_dataOf_115 : decode b_R_dataOf 115 = .ok (.goto (-46), 3) := by decide +kernel
theorem d_R_dataOf_118 : decode b_R_dataOf 118 = .ok (.iinc 3 1, 3) := by decide +kernel
theorem d_R_dataOf_121 : decode b_R_dataOf 121 = .ok (.goto (-61), 3) := by decide +kernel
theorem d_R_dataOf_124 : decode b_R_dataOf 124 = .ok (.iconst 0, 1) := by decide +kernel
theorem d_R_dataOf_125 : decode b_R_dataOf 125 = .ok (.istore_n 3, 1) := by decide +kernel
theorem d_R_dataOf_126 : decode b_R_dataOf 126 = .ok (.iload_n 3, 1) := by decide +kernel
theorem d_R_dataOf_127 : decode b_R_dataOf 127 = .ok (.bipush 31, 2) := by decide +kernel
theorem d_R_dataOf_129 : decode b_R_dataOf 129 = .ok (.if_icmp .ge 94, 3) := by decide +kernel
theorem d_R_dataOf_132 : decode b_R_dataOf 132 = .ok (.iconst 0, 1) := by decide +kernel
theorem d_R_dataOf_133 : decode b_R_dataOf 133 = .ok (.istore 4, 2) := by decide +kernel
theorem d_R_dataOf_135 : decode b_R_dataOf 135 = .ok (.iload 4, 2) := by decide +kernel
theorem d_R_dataOf_137 : decode b_R_dataOf 137 = .ok (.iload_n 3, 1) := by decide +kernel
theorem d_R_dataOf_138 : decode b_R_dataOf 138 = .ok (.if_icmp .ge 79, 3) := by decide +kernel
theorem d_R_dataOf_141 : decode b_R_dataOf 141 = .ok (.aload_n 0, 1) := by decide +kernel
theorem d_R_dataOf_142 : decode b_R_dataOf 142 = .ok (.getfield 7, 3) := by decide +kernel
theorem d_R_dataOf_145 : decode b_R_dataOf 145 = .ok (.iload_n 3, 1) := by decide +kernel
theorem d_R_dataOf_146 : decode b_R_dataOf 146 = .ok (.iaload, 1) := by decide +kernel
theorem d_R_dataOf_147 : decode b_R_dataOf 147 = .ok (.aload_n 0, 1) := by decide +kernel
theorem d_R_dataOf_148 : decode b_R_dataOf 148 = .ok (.getfield 7, 3) := by decide +kernel
theorem d_R_dataOf_151 : decode b_R_dataOf 151 = .ok (.iload 4, 2) := by decide +kernel
theorem d_R_dataOf_153 : decode b_R_dataOf 153 = .ok (.iaload, 1) := by decide +kernel
theorem d_R_dataOf_154 : decode b_R_dataOf 154 = .ok (.ixor, 1) := by decide +kernel
theorem d_R_dataOf_155 : decode b_R_dataOf 155 = .ok (.iload_n 2, 1) := by decide +kernel
theorem d_R_dataOf_156 : decode b_R_dataOf 156 = .ok (.ixor, 1) := by decide +kernel
theorem d_R_dataOf_157 : decode b_R_dataOf 157 = .ok (.istore 5, 2) := by decide +kernel
theorem d_R_dataOf_159 : decode b_R_dataOf 159 = .ok (.iconst 0, 1) := by decide +kernel
theorem d_R_dataOf_160 : decode b_R_dataOf 160 = .ok (.istore 6, 2) := by decide +kernel
theorem d_R_dataOf_162 : decode b_R_dataOf 162 = .ok (.iload 6, 2) := by decide +kernel
theorem d_R_dataOf_164 : decode b_R_dataOf 164 = .ok (.iload 4, 2) := by decide +kernel
theorem d_R_dataOf_166 : decode b_R_dataOf 166 = .ok (.if_icmp .ge 45, 3) := by decide +kernel
theorem d_R_dataOf_169 : decode b_R_dataOf 169 = .ok (.aload_n 0, 1) := by decide +kernel
theorem d_R_dataOf_170 : decode b_R_dataOf 170 = .ok (.getfield 7, 3) := by decide +kernel
theorem d_R_dataOf_173 : decode b_R_dataOf 173 = .ok (.iload 6, 2) := by decide +kernel
theorem d_R_dataOf_175 : decode b_R_dataOf 175 = .ok (.iaload, 1) := by decide +kernel
theorem d_R_dataOf_176 : decode b_R_dataOf 176 = .ok (.iload 5, 2) := by decide +kernel
theorem d_R_dataOf_178 : decode b_R_dataOf 178 = .ok (.if_icmp .ne 27, 3) := by decide +kernel
theorem d_R_dataOf_181 : decode b_R_dataOf 181 = .ok (.aload_n 0, 1) := by decide +kernel
theorem d_R_dataOf_182 : decode b_R_dataOf 182 = .ok (.iconst 3, 1) := by decide +kernel
theorem d_R_dataOf_183 : decode b_R_dataOf 183 = .ok (.putfield 42, 3) := by decide +kernel
theorem d_R_dataOf_186 : decode b_R_dataOf 186 = .ok (.iload_n 1, 1) := by decide +kernel
theorem d_R_dataOf_187 : decode b_R_dataOf 187 = .ok (.iconst 1, 1) := by decide +kernel
theorem d_R_dataOf_188 : decode b_R_dataOf 188 = .ok (.iload_n 3, 1) := by decide +kernel
theorem d_R_dataOf_189 : decode b_R_dataOf 189 = .ok (.ishl, 1) := by decide +kernel
theorem d_R_dataOf_190 : decode b_R_dataOf 190 = .ok (.ixor, 1) := by decide +kernel
theorem d_R_dataOf_191 : decode b_R_dataOf 191 = .ok (.iconst 1, 1) := by decide +kernel
theorem d_R_dataOf_192 : decode b_R_dataOf 192 = .ok (.iload 4, 2) := by decide +kernel
theorem d_R_dataOf_194 : decode b_R_dataOf 194 = .ok (.ishl, 1) := by decide +kernel
theorem d_R_dataOf_195 : decode b_R_dataOf 195 = .ok (.ixor, 1) := by decide +kernel
theorem d_R_dataOf_196 : decode b_R_dataOf 196 = .ok (.iconst 1, 1) := by decide +kernel
theorem d_R_dataOf_197 : decode b_R_dataOf 197 = .ok (.iload 6, 2) := by decide +kernel
theorem d_R_dataOf_199 : decode b_R_dataOf 199 = .ok (.ishl, 1) := by decide +kernel
theorem d_R_dataOf_200 : decode b_R_dataOf 200 = .ok (.ixor, 1) := by decide +kernel
theorem d_R_dataOf_201 : decode b_R_dataOf 201 = .ok (.bipush 15, 2) := by decide +kernel
theorem d_R_dataOf_203 : decode b_R_dataOf 203 = .ok (.ishr, 1) := by decide +kernel
theorem d_R_dataOf_204 : decode b_R_dataOf 204 = .ok (.ireturn, 1) := by decide +kernel
theorem d_R_dataOf_205 : decode b_R_dataOf 205 = .ok (.iinc 6 1, 3) := by decide +kernel
theorem d_R_dataOf_208 : decode b_R_dataOf 208 = .ok (.goto (-46), 3) := by decide +kernel
theorem d_R_dataOf_211 : decode b_R_dataOf 211 = .ok (.iinc 4 1, 3) := by decide +kernel
theorem d_R_dataOf_214 : decode b_R_dataOf 214 = .ok (.goto (-79), 3) := by decide +kernel
theorem d_R_dataOf_217 : decode b_R_dataOf 217 = .ok (.iinc 3 1, 3) := by decide +kernel
theorem d_R_dataOf_220 : decode b_R_dataOf 220 = .ok (.goto (-94), 3) := by decide +kernel
theorem d_R_dataOf_223 : decode b_R_dataOf 223 = .ok (.iconst (-1), 1) := by decide +kernel
theorem d_R_dataOf_224 : decode b_R_dataOf 224 = .ok (.ireturn, 1) := by decide +kernel
theorem d_R_encode_0 : decode b_R_encode 0 = .ok (.aload_n 0, 1) := by decide +kernel
theorem d_R_encode_1 : decode b_R_encode 1 = .ok (.iconst 0, 1) := by decide +kernel
theorem d_R_encode_2 : decode b_R_encode 2 = .ok (.putfield 33, 3) := by decide +kernel
theorem d_R_encode_5 : decode b_R_encode 5 = .ok (.iload_n 1, 1) := by decide +kernel
theorem d_R_encode_6 : decode b_R_encode 6 = .ok (.ldc 45, 2) := by decide +kernel
theorem d_R_encode_8 : decode b_R_encode 8 = .ok (.invokestatic 46, 3) := by decide +kernel
theorem d_R_encode_11 : decode b_R_encode 11 = .ok (.ifCond .eq 11, 3) := by decide +kernel
theorem d_R_encode_14 : decode b_R_encode 14 = .ok (.aload_n 0, 1) := by decide +kernel
theorem d_R_encode_15 : decode b_R_encode 15 = .ok (.iconst 1, 1) := by decide +kernel
theorem d_R_encode_16 : decode b_R_encode 16 = .ok (.invokevirtual 50, 3) := by decide +kernel
theorem d_R_encode_19 : decode b_R_encode 19 = .ok (.goto 8, 3) := by decide +kernel
theorem d_R_encode_22 : decode b_R_encode 22 = .ok (.aload_n 0, 1) := by decide +kernel
theorem d_R_encode_23 : decode b_R_encode 23 = .ok (.iload_n 1, 1) := by decide +kernel
theorem d_R_encode_24 : decode b_R_encode 24 = .ok (.invokevirtual 53, 3) := by decide +kernel
theorem d_R_encode_27 : decode b_R_encode 27 = .ok (.ireturn, 1) := by decide +kernel
theorem d_R_decode_0 : decode b_R_decode 0 = .ok (.aload_n 0, 1) := by decide +kernel
theorem d_R_decode_1 : decode b_R_decode 1 = .ok (.iconst 0, 1) := by decide +kernel
theorem d_R_decode_2 : decode b_R_decode 2 = .ok (.putfield 33, 3) := by decide +kernel
theorem d_R_decode_5 : decode b_R_decode 5 = .ok (.iload_n 1, 1) := by decide +kernel
theorem d_R_decode_6 : decode b_R_decode 6 = .ok (.ifCond .ge 9, 3) := by decide +kernel
theorem d_R_decode_9 : decode b_R_decode 9 = .ok (.aload_n 0, 1) := by decide +kernel
theorem d_R_decode_10 : decode b_R_decode 10 = .ok (.iconst 1, 1) := by decide +kernel
theorem d_R_decode_11 : decode b_R_decode 11 = .ok (.invokevirtual 50, 3) := by decide +kernel
theorem d_R_decode_14 : decode b_R_decode 14 = .ok (.ireturn, 1) := by decide +kernel
theorem d_R_decode_15 : decode b_R_decode 15 = .ok (.aload_n 0, 1) := by decide +kernel
theorem d_R_decode_16 : decode b_R_decode 16 = .ok (.iload_n 1, 1) := by decide +kernel
theorem d_R_decode_17 : decode b_R_decode 17 = .ok (.invokevirtual 56, 3) := by decide +kernel
theorem d_R_decode_20 : decode b_R_decode 20 = .ok (.istore_n 2, 1) := by decide +kernel
theorem d_R_decode_21 : decode b_R_decode 21 = .ok (.iload_n 2, 1) := by decide +kernel
theorem d_R_decode_22 : decode b_R_decode 22 = .ok (.ifCond .ge 9, 3) := by decide +kernel
theorem d_R_decode_25 : decode b_R_decode 25 = .ok (.aload_n 0, 1) := by decide +kernel
theorem d_R_decode_26 : decode b_R_decode 26 = .ok (.iconst 2, 1) := by decide +kernel
theorem d_R_decode_27 : decode b_R_decode 27 = .ok (.invokevirtual 50, 3) := by decide +kernel
theorem d_R_decode_30 : decode b_R_decode 30 = .ok (.ireturn, 1) := by decide +kernel
theorem d_R_decode_31 : decode b_R_decode 31 = .ok (.aload_n 0, 1) := by decide +kernel
theorem d_R_decode_32 : decode b_R_decode 32 = .ok (.aload_n 0, 1) := by decide +kernel
theorem d_R_decode_33 : decode b_R_decode 33 = .ok (.getfield 42, 3) := by decide +kernel
theorem d_R_decode_36 : decode b_R_decode 36 = .ok (.putfield 59, 3) := by decide +kernel
theorem d_R_decode_39 : decode b_R_decode 39 = .ok (.iload_n 2, 1) := by decide +kernel
theorem d_R_decode_40 : decode b_R_decode 40 = .ok (.ireturn, 1) := by decide +kernel
theorem d_R_mended_0 : decode b_R_mended 0 = .ok (.aload_n 0, 1) := by decide +kernel
theorem d_R_mended_1 : decode b_R_mended 1 = .ok (.iconst 0, 1) := by decide +kernel
theorem d_R_mended_2 : decode b_R_mended 2 = .ok (.putfield 33, 3) := by decide +kernel
theorem d_R_mended_5 : decode b_R_mended 5 = .ok (.aload_n 0, 1) := by decide +kernel
theorem d_R_mended_6 : decode b_R_mended 6 = .ok (.getfield 59, 3) := by decide +kernel
theorem d_R_mended_9 : decode b_R_mended 9 = .ok (.ireturn, 1) := by decide +kernel
theorem d_R_readable_0 : decode b_R_readable 0 = .ok (.iconst 1, 1) := by decide +kernel
theorem d_R_readable_1 : decode b_R_readable 1 = .ok (.istore_n 2, 1) := by decide +kernel
theorem d_R_readable_2 : decode b_R_readable 2 = .ok (.iconst 0, 1) := by decide +kernel
theorem d_R_readable_3 : decode b_R_readable 3 = .ok (.istore_n 3, 1) := by decide +kernel
theorem d_R_readable_4 : decode b_R_readable 4 = .ok (.iload_n 3, 1) := by decide +kernel
theorem d_R_readable_5 : decode b_R_readable 5 = .ok (.iconst 4, 1) := by decide +kernel
theorem d_R_readable_6 : decode b_R_readable 6 = .ok (.if_icmp .ge 36, 3) := by decide +kernel
theorem d_R_readable_9 : decode b_R_readable 9 = .ok (.iload_n 2, 1) := by decide +kernel
theorem d_R_readable_10 : decode b_R_readable 10 = .ok (.ifCond .eq 24, 3) := by decide +kernel
theorem d_R_readable_13 : decode b_R_readable 13 = .ok (.aload_n 0, 1) := by decide +kernel
theorem d_R_readable_14 : decode b_R_readable 14 = .ok (.aload_n 0, 1) := by decide +kernel
theorem d_R_readable_15 : decode b_R_readable 15 = .ok (.getfield 13, 3) := by decide +kernel
theorem d_R_readable_18 : decode b_R_readable 18 = .ok (.iconst 5, 1) := by decide +kernel
theorem d_R_readable_19 : decode b_R_readable 19 = .ok (.iload_n 1, 1) := by decide +kernel
theorem d_R_readable_20 : decode b_R_readable 20 = .ok (.imul, 1) := by decide +kernel
theorem d_R_readable_21 : decode b_R_readable 21 = .ok (.iload_n 3, 1) := by decide +kernel
theorem d_R_readable_22 : decode b_R_readable 22 = .ok (.iadd, 1) := by decide +kernel
theorem d_R_readable_23 : decode b_R_readable 23 = .ok (.iaload, 1) := by decide +kernel
theorem d_R_readable_24 : decode b_R_readable 24 = .ok (.invokevirtual 56, 3) := by decide +kernel
theorem d_R_readable_27 : decode b_R_readable 27 = .ok (.ifCond .lt 7, 3) := by decide +kernel
theorem d_R_readable_30 : decode b_R_readable 30 = .ok (.iconst 1, 1) := by decide +kernel
theorem d_R_readable_31 : decode b_R_readable 31 = .ok (.goto 4, 3) := by decide +kernel
theorem d_R_readable_34 : decode b_R_readable 34 = .ok (.iconst 0, 1) := by decide +kernel
theorem d_R_readable_35 : decode b_R_readable 35 = .ok (.istore_n 2, 1) := by decide +kernel
theorem d_R_readable_36 : decode b_R_readable 36 = .ok (.iinc 3 1, 3) := by decide +kernel
theorem d_R_readable_39 : decode b_R_readable 39 = .ok (.goto (-35), 3) := by decide +kernel
theorem d_R_readable_42 : decode b_R_readable 42 = .ok (.iload_n 2, 1) := by decide +kernel
theorem d_R_readable_43 : decode b_R_readable 43 = .ok (.ireturn, 1) := by decide +kernel
theorem d_R_contentOf_0 : decode b_R_contentOf 0 = .ok (.lconst 0, 1) := by decide +kernel
theorem d_R_contentOf_1 : decode b_R_contentOf 1 = .ok (.lstore_n 2, 1) := by decide +kernel
theorem d_R_contentOf_2 : decode b_R_contentOf 2 = .ok (.iconst 3, 1) := by decide +kernel
theorem d_R_contentOf_3 : decode b_R_contentOf 3 = .ok (.istore 4, 2) := by decide +kernel
theorem d_R_contentOf_5 : decode b_R_contentOf 5 = .ok (.iload 4, 2) := by decide +kernel
theorem d_R_contentOf_7 : decode b_R_contentOf 7 = .ok (.ifCond .lt 31, 3) := by decide +kernel
theorem d_R_contentOf_10 : decode b_R_contentOf 10 = .ok (.lload_n 2, 1) := by decide +kernel
theorem d_R_contentOf_11 : decode b_R_contentOf 11 = .ok (.bipush 16, 2) := by decide +kernel
theorem d_R_contentOf_13 : decode b_R_contentOf 13 = .ok (.lshl, 1) := by decide +kernel
theorem d_R_contentOf_14 : decode b_R_contentOf 14 = .ok (.aload_n 0, 1) := by decide +kernel
theorem d_R_contentOf_15 : decode b_R_contentOf 15 = .ok (.aload_n 0, 1) := by decide +kernel
theorem d_R_contentOf_16 : decode b_R_contentOf 16 = .ok (.getfield 13, 3) := by decide +kernel
theorem d_R_contentOf_19 : decode b_R_contentOf 19 = .ok (.iconst 5, 1) := by decide +kernel
theorem d_R_contentOf_20 : decode b_R_contentOf 20 = .ok (.iload_n 1, 1) := by decide +kernel
theorem d_R_contentOf_21 : decode b_R_contentOf 21 = .ok (.imul, 1) := by decide +kernel
theorem d_R_contentOf_22 : decode b_R_contentOf 22 = .ok (.iload 4, 2) := by decide +kernel
theorem d_R_contentOf_24 : decode b_R_contentOf 24 = .ok (.iadd, 1) := by decide +kernel
theorem d_R_contentOf_25 : decode b_R_contentOf 25 = .ok (.iaload, 1) := by decide +kernel
theorem d_R_contentOf_26 : decode b_R_contentOf 26 = .ok (.invokevirtual 56, 3) := by decide +kernel
theorem d_R_contentOf_29 : decode b_R_contentOf 29 = .ok (.i2l, 1) := by decide +kernel
theorem d_R_contentOf_30 : decode b_R_contentOf 30 = .ok (.lor, 1) := by decide +kernel
theorem d_R_contentOf_31 : decode b_R_contentOf 31 = .ok (.lstore_n 2, 1) := by decide +kernel
theorem d_R_contentOf_32 : decode b_R_contentOf 32 = .ok (.iinc 4 (-1), 3) := by decide +kernel
theorem d_R_contentOf_35 : decode b_R_contentOf 35 = .ok (.goto (-30), 3) := by decide +kernel
theorem d_R_contentOf_38 : decode b_R_contentOf 38 = .ok (.lload_n 2, 1) := by decide +kernel
theorem d_R_contentOf_39 : decode b_R_contentOf 39 = .ok (.lreturn, 1) := by decide +kernel
theorem d_R_program_0 : decode b_R_program 0 = .ok (.aload_n 0, 1) := by decide +kernel
theorem d_R_program_1 : decode b_R_program 1 = .ok (.getfield 13, 3) := by decide +kernel
theorem d_R_program_4 : decode b_R_program 4 = .ok (.iconst 5, 1) := by decide +kernel
theorem d_R_program_5 : decode b_R_program 5 = .ok (.iload_n 1, 1) := by decide +kernel
theorem d_R_program_6 : decode b_R_program 6 = .ok (.imul, 1) := by decide +kernel
theorem d_R_program_7 : decode b_R_program 7 = .ok (.iload_n 2, 1) := by decide +kernel
theorem d_R_program_8 : decode b_R_program 8 = .ok (.iadd, 1) := by decide +kernel
theorem d_R_program_9 : decode b_R_program 9 = .ok (.aload_n 0, 1) := by decide +kernel
theorem d_R_program_10 : decode b_R_program 10 = .ok (.getfield 13, 3) := by decide +kernel
theorem d_R_program_13 : decode b_R_program 13 = .ok (.iconst 5, 1) := by decide +kernel
theorem d_R_program_14 : decode b_R_program 14 = .ok (.iload_n 1, 1) := by decide +kernel
theorem d_R_program_15 : decode b_R_program 15 = .ok (.imul, 1) := by decide +kernel
theorem d_R_program_16 : decode b_R_program 16 = .ok (.iload_n 2, 1) := by decide +kernel
theorem d_R_program_17 : decode b_R_program 17 = .ok (.iadd, 1) := by decide +kernel
theorem d_R_program_18 : decode b_R_program 18 = .ok (.iaload, 1) := by decide +kernel
theorem d_R_program_19 : decode b_R_program 19 = .ok (.aload_n 0, 1) := by decide +kernel
theorem d_R_program_20 : decode b_R_program 20 = .ok (.iload_n 3, 1) := by decide +kernel
theorem d_R_program_21 : decode b_R_program 21 = .ok (.invokevirtual 53, 3) := by decide +kernel
theorem d_R_program_24 : decode b_R_program 24 = .ok (.iand, 1) := by decide +kernel
theorem d_R_program_25 : decode b_R_program 25 = .ok (.iastore, 1) := by decide +kernel
theorem d_R_program_26 : decode b_R_program 26 = .ok (.return_, 1) := by decide +kernel
theorem d_R_count_0 : decode b_R_count 0 = .ok (.iconst 0, 1) := by decide +kernel
theorem d_R_count_1 : decode b_R_count 1 = .ok (.istore_n 3, 1) := by decide +kernel
theorem d_R_count_2 : decode b_R_count 2 = .ok (.iconst 0, 1) := by decide +kernel
theorem d_R_count_3 : decode b_R_count 3 = .ok (.istore 4, 2) := by decide +kernel
theorem d_R_count_5 : decode b_R_count 5 = .ok (.iload 4, 2) := by decide +kernel
theorem d_R_count_7 : decode b_R_count 7 = .ok (.iconst 4, 1) := by decide +kernel
theorem d_R_count_8 : decode b_R_count 8 = .ok (.if_icmp .ge 32, 3) := by decide +kernel
theorem d_R_count_11 : decode b_R_count 11 = .ok (.aload_n 0, 1) := by decide +kernel
theorem d_R_count_12 : decode b_R_count 12 = .ok (.getfield 16, 3) := by decide +kernel
theorem d_R_count_15 : decode b_R_count 15 = .ok (.iconst 4, 1) := by decide +kernel
theorem d_R_count_16 : decode b_R_count 16 = .ok (.iload_n 1, 1) := by decide +kernel
theorem d_R_count_17 : decode b_R_count 17 = .ok (.imul, 1) := by decide +kernel
theorem d_R_count_18 : decode b_R_count 18 = .ok (.iload 4, 2) := by decide +kernel
theorem d_R_count_20 : decode b_R_count 20 = .ok (.iadd, 1) := by decide +kernel
theorem d_R_count_21 : decode b_R_count 21 = .ok (.iaload, 1) := by decide +kernel
theorem d_R_count_22 : decode b_R_count 22 = .ok (.iload_n 2, 1) := by decide +kernel
theorem d_R_count_23 : decode b_R_count 23 = .ok (.if_icmp .ne 9, 3) := by decide +kernel
theorem d_R_count_26 : decode b_R_count 26 = .ok (.iload_n 3, 1) := by decide +kernel
theorem d_R_count_27 : decode b_R_count 27 = .ok (.iconst 1, 1) := by decide +kernel
theorem d_R_count_28 : decode b_R_count 28 = .ok (.iadd, 1) := by decide +kernel
theorem d_R_count_29 : decode b_R_count 29 = .ok (.goto 4, 3) := by decide +kernel
theorem d_R_count_32 : decode b_R_count 32 = .ok (.iload_n 3, 1) := by decide +kernel
theorem d_R_count_33 : decode b_R_count 33 = .ok (.istore_n 3, 1) := by decide +kernel
theorem d_R_count_34 : decode b_R_count 34 = .ok (.iinc 4 1, 3) := by decide +kernel
theorem d_R_count_37 : decode b_R_count 37 = .ok (.goto (-32), 3) := by decide +kernel
theorem d_R_count_40 : decode b_R_count 40 = .ok (.iload_n 3, 1) := by decide +kernel
theorem d_R_count_41 : decode b_R_count 41 = .ok (.ireturn, 1) := by decide +kernel
theorem d_R_empty_0 : decode b_R_empty 0 = .ok (.aload_n 0, 1) := by decide +kernel
theorem d_R_empty_1 : decode b_R_empty 1 = .ok (.iload_n 1, 1) := by decide +kernel
theorem d_R_empty_2 : decode b_R_empty 2 = .ok (.iconst 0, 1) := by decide +kernel
theorem d_R_empty_3 : decode b_R_empty 3 = .ok (.invokevirtual 62, 3) := by decide +kernel
theorem d_R_empty_6 : decode b_R_empty 6 = .ok (.iconst 4, 1) := by decide +kernel
theorem d_R_empty_7 : decode b_R_empty 7 = .ok (.if_icmp .ne 7, 3) := by decide +kernel
theorem d_R_empty_10 : decode b_R_empty 10 = .ok (.iconst 1, 1) := by decide +kernel
theorem d_R_empty_11 : decode b_R_empty 11 = .ok (.goto 4, 3) := by decide +kernel
theorem d_R_empty_14 : decode b_R_empty 14 = .ok (.iconst 0, 1) := by decide +kernel
theorem d_R_empty_15 : decode b_R_empty 15 = .ok (.ireturn, 1) := by decide +kernel
theorem d_R_placeBut_0 : decode b_R_placeBut 0 = .ok (.iconst 0, 1) := by decide +kernel
theorem d_R_placeBut_1 : decode b_R_placeBut 1 = .ok (.istore_n 2, 1) := by decide +kernel
theorem d_R_placeBut_2 : decode b_R_placeBut 2 = .ok (.iload_n 2, 1) := by decide +kernel
theorem d_R_placeBut_3 : decode b_R_placeBut 3 = .ok (.iconst 2, 1) := by decide +kernel
theorem d_R_placeBut_4 : decode b_R_placeBut 4 = .ok (.if_icmp .ge 64, 3) := by decide +kernel
theorem d_R_placeBut_7 : decode b_R_placeBut 7 = .ok (.iconst 0, 1) := by decide +kernel
theorem d_R_placeBut_8 : decode b_R_placeBut 8 = .ok (.istore_n 3, 1) := by decide +kernel
theorem d_R_placeBut_9 : decode b_R_placeBut 9 = .ok (.iload_n 3, 1) := by decide +kernel
theorem d_R_placeBut_10 : decode b_R_placeBut 10 = .ok (.bipush 16, 2) := by decide +kernel
theorem d_R_placeBut_12 : decode b_R_placeBut 12 = .ok (.if_icmp .ge 50, 3) := by decide +kernel
theorem d_R_placeBut_15 : decode b_R_placeBut 15 = .ok (.iload_n 3, 1) := by decide +kernel
theorem d_R_placeBut_16 : decode b_R_placeBut 16 = .ok (.iconst 4, 1) := by decide +kernel
theorem d_R_placeBut_17 : decode b_R_placeBut 17 = .ok (.idiv, 1) := by decide +kernel
theorem d_R_placeBut_18 : decode b_R_placeBut 18 = .ok (.istore 4, 2) := by decide +kernel
theorem d_R_placeBut_20 : decode b_R_placeBut 20 = .ok (.iload 4, 2) := by decide +kernel
theorem d_R_placeBut_22 : decode b_R_placeBut 22 = .ok (.iload_n 1, 1) := by decide +kernel
theorem d_R_placeBut_23 : decode b_R_placeBut 23 = .ok (.if_icmp .eq 33, 3) := by decide +kernel
theorem d_R_placeBut_26 : decode b_R_placeBut 26 = .ok (.aload_n 0, 1) := by decide +kernel
theorem d_R_placeBut_27 : decode b_R_placeBut 27 = .ok (.getfield 16, 3) := by decide +kernel
theorem d_R_placeBut_30 : decode b_R_placeBut 30 = .ok (.iload_n 3, 1) := by decide +kernel
theorem d_R_placeBut_31 : decode b_R_placeBut 31 = .ok (.iaload, 1) := by decide +kernel
theorem d_R_placeBut_32 : decode b_R_placeBut 32 = .ok (.ifCond .ne 24, 3) := by decide +kernel
theorem d_R_placeBut_35 : decode b_R_placeBut 35 = .ok (.aload_n 0, 1) := by decide +kernel
theorem d_R_placeBut_36 : decode b_R_placeBut 36 = .ok (.iload 4, 2) := by decide +kernel
theorem d_R_placeBut_38 : decode b_R_placeBut 38 = .ok (.invokevirtual 66, 3) := by decide +kernel
theorem d_R_placeBut_41 : decode b_R_placeBut 41 = .ok (.iload_n 2, 1) := by decide +kernel
theorem d_R_placeBut_42 : decode b_R_placeBut 42 = .ok (.iconst 1, 1) := by decide +kernel
theorem d_R_placeBut_43 : decode b_R_placeBut 43 = .ok (.if_icmp .ne 7, 3) := by decide +kernel
theorem d_R_placeBut_46 : decode b_R_placeBut 46 = .ok (.iconst 1, 1) := by decide +kernel
theorem d_R_placeBut_47 : decode b_R_placeBut 47 = .ok (.goto 4, 3) := by decide +kernel
theorem d_R_placeBut_50 : decode b_R_placeBut 50 = .ok (.iconst 0, 1) := by decide +kernel
theorem d_R_placeBut_51 : decode b_R_placeBut 51 = .ok (.if_icmp .ne 5, 3) := by decide +kernel
theorem d_R_placeBut_54 : decode b_R_placeBut 54 = .ok (.iload_n 3, 1) := by decide +kernel
theorem d_R_placeBut_55 : decode b_R_placeBut 55 = .ok (.ireturn, 1) := by decide +kernel
theorem d_R_placeBut_56 : decode b_R_placeBut 56 = .ok (.iinc 3 1, 3) := by decide +kernel
theorem d_R_placeBut_59 : decode b_R_placeBut 59 = .ok (.goto (-50), 3) := by decide +kernel
theorem d_R_placeBut_62 : decode b_R_placeBut 62 = .ok (.iinc 2 1, 3) := by decide +kernel
theorem d_R_placeBut_65 : decode b_R_placeBut 65 = .ok (.goto (-63), 3) := by decide +kernel
theorem d_R_placeBut_68 : decode b_R_placeBut 68 = .ok (.iconst (-1), 1) := by decide +kernel
theorem d_R_placeBut_69 : decode b_R_placeBut 69 = .ok (.ireturn, 1) := by decide +kernel
theorem d_R_put_0 : decode b_R_put 0 = .ok (.iconst 0, 1) := by decide +kernel
theorem d_R_put_1 : decode b_R_put 1 = .ok (.istore 5, 2) := by decide +kernel
theorem d_R_put_3 : decode b_R_put 3 = .ok (.iload 5, 2) := by decide +kernel
theorem d_R_put_5 : decode b_R_put 5 = .ok (.iconst 4, 1) := by decide +kernel
theorem d_R_put_6 : decode b_R_put 6 = .ok (.if_icmp .ge 28, 3) := by decide +kernel
theorem d_R_put_9 : decode b_R_put 9 = .ok (.aload_n 0, 1) := by decide +kernel
theorem d_R_put_10 : decode b_R_put 10 = .ok (.iload_n 1, 1) := by decide +kernel
theorem d_R_put_11 : decode b_R_put 11 = .ok (.iload 5, 2) := by decide +kernel
theorem d_R_put_13 : decode b_R_put 13 = .ok (.lload_n 3, 1) := by decide +kernel
theorem d_R_put_14 : decode b_R_put 14 = .ok (.bipush 16, 2) := by decide +kernel
theorem d_R_put_16 : decode b_R_put 16 = .ok (.iload 5, 2) := by decide +kernel
theorem d_R_put_18 : decode b_R_put 18 = .ok (.imul, 1) := by decide +kernel
theorem d_R_put_19 : decode b_R_put 19 = .ok (.lshr, 1) := by decide +kernel
theorem d_R_put_20 : decode b_R_put 20 = .ok (.ldc2_w 70, 3) := by decide +kernel
theorem d_R_put_23 : decode b_R_put 23 = .ok (.land, 1) := by decide +kernel
theorem d_R_put_24 : decode b_R_put 24 = .ok (.l2i, 1) := by decide +kernel
theorem d_R_put_25 : decode b_R_put 25 = .ok (.invokevirtual 72, 3) := by decide +kernel
theorem d_R_put_28 : decode b_R_put 28 = .ok (.iinc 5 1, 3) := by decide +kernel
theorem d_R_put_31 : decode b_R_put 31 = .ok (.goto (-28), 3) := by decide +kernel
theorem d_R_put_34 : decode b_R_put 34 = .ok (.aload_n 0, 1) := by decide +kernel
theorem d_R_put_35 : decode b_R_put 35 = .ok (.iload_n 1, 1) := by decide +kernel
theorem d_R_put_36 : decode b_R_put 36 = .ok (.iconst 4, 1) := by decide +kernel
theorem d_R_put_37 : decode b_R_put 37 = .ok (.sipush 4096, 3) := by decide +kernel
theorem d_R_put_40 : decode b_R_put 40 = .ok (.iload_n 2, 1) := by decide +kernel
theorem d_R_put_41 : decode b_R_put 41 = .ok (.imul, 1) := by decide +kernel
theorem d_R_put_42 : decode b_R_put 42 = .ok (.aload_n 0, 1) := by decide +kernel
theorem d_R_put_43 : decode b_R_put 43 = .ok (.getfield 76, 3) := by decide +kernel
theorem d_R_put_46 : decode b_R_put 46 = .ok (.iadd, 1) := by decide +kernel
theorem d_R_put_47 : decode b_R_put 47 = .ok (.invokevirtual 72, 3) := by decide +kernel
theorem d_R_put_50 : decode b_R_put 50 = .ok (.aload_n 0, 1) := by decide +kernel
theorem d_R_put_51 : decode b_R_put 51 = .ok (.getfield 16, 3) := by decide +kernel
theorem d_R_put_54 : decode b_R_put 54 = .ok (.iload_n 1, 1) := by decide +kernel
theorem d_R_put_55 : decode b_R_put 55 = .ok (.iconst 1, 1) := by decide +kernel
theorem d_R_put_56 : decode b_R_put 56 = .ok (.iastore, 1) := by decide +kernel
theorem d_R_put_57 : decode b_R_put 57 = .ok (.aload_n 0, 1) := by decide +kernel
theorem d_R_put_58 : decode b_R_put 58 = .ok (.getfield 19, 3) := by decide +kernel
theorem d_R_put_61 : decode b_R_put 61 = .ok (.iload_n 1, 1) := by decide +kernel
theorem d_R_put_62 : decode b_R_put 62 = .ok (.iload_n 2, 1) := by decide +kernel
theorem d_R_put_63 : decode b_R_put 63 = .ok (.iastore, 1) := by decide +kernel
theorem d_R_put_64 : decode b_R_put 64 = .ok (.aload_n 0, 1) := by decide +kernel
theorem d_R_put_65 : decode b_R_put 65 = .ok (.getfield 22, 3) := by decide +kernel
theorem d_R_put_68 : decode b_R_put 68 = .ok (.iload_n 1, 1) := by decide +kernel
theorem d_R_put_69 : decode b_R_put 69 = .ok (.aload_n 0, 1) := by decide +kernel
theorem d_R_put_70 : decode b_R_put 70 = .ok (.getfield 76, 3) := by decide +kernel
theorem d_R_put_73 : decode b_R_put 73 = .ok (.iastore, 1) := by decide +kernel
theorem d_R_put_74 : decode b_R_put 74 = .ok (.aload_n 0, 1) := by decide +kernel
theorem d_R_put_75 : decode b_R_put 75 = .ok (.aload_n 0, 1) := by decide +kernel
theorem d_R_put_76 : decode b_R_put 76 = .ok (.getfield 76, 3) := by decide +kernel
theorem d_R_put_79 : decode b_R_put 79 = .ok (.sipush 4094, 3) := by decide +kernel
theorem d_R_put_82 : decode b_R_put 82 = .ok (.if_icmp .ne 7, 3) := by decide +kernel
theorem d_R_put_85 : decode b_R_put 85 = .ok (.iconst 0, 1) := by decide +kernel
theorem d_R_put_86 : decode b_R_put 86 = .ok (.goto 9, 3) := by decide +kernel
theorem d_R_put_89 : decode b_R_put 89 = .ok (.aload_n 0, 1) := by decide +kernel
theorem d_R_put_90 : decode b_R_put 90 = .ok (.getfield 76, 3) := by decide +kernel
theorem d_R_put_93 : decode b_R_put 93 = .ok (.iconst 1, 1) := by decide +kernel
theorem d_R_put_94 : decode b_R_put 94 = .ok (.iadd, 1) := by decide +kernel
theorem d_R_put_95 : decode b_R_put 95 = .ok (.putfield 76, 3) := by decide +kernel
theorem d_R_put_98 : decode b_R_put 98 = .ok (.aload_n 0, 1) := by decide +kernel
theorem d_R_put_99 : decode b_R_put 99 = .ok (.getfield 28, 3) := by decide +kernel
theorem d_R_put_102 : decode b_R_put 102 = .ok (.iload_n 2, 1) := by decide +kernel
theorem d_R_put_103 : decode b_R_put 103 = .ok (.iaload, 1) := by decide +kernel
theorem d_R_put_104 : decode b_R_put 104 = .ok (.ifCond .le 17, 3) := by decide +kernel
theorem d_R_put_107 : decode b_R_put 107 = .ok (.aload_n 0, 1) := by decide +kernel
theorem d_R_put_108 : decode b_R_put 108 = .ok (.getfield 16, 3) := by decide +kernel
theorem d_R_put_111 : decode b_R_put 111 = .ok (.aload_n 0, 1) := by decide +kernel
theorem d_R_put_112 : decode b_R_put 112 = .ok (.getfield 28, 3) := by decide +kernel
theorem d_R_put_115 : decode b_R_put 115 = .ok (.iload_n 2, 1) := by decide +kernel
theorem d_R_put_116 : decode b_R_put 116 = .ok (.iaload, 1) := by decide +kernel
theorem d_R_put_117 : decode b_R_put 117 = .ok (.iconst 1, 1) := by decide +kernel
theorem d_R_put_118 : decode b_R_put 118 = .ok (.isub, 1) := by decide +kernel
theorem d_R_put_119 : decode b_R_put 119 = .ok (.iconst 2, 1) := by decide +kernel
theorem d_R_put_120 : decode b_R_put 120 = .ok (.iastore, 1) := by decide +kernel
theorem d_R_put_121 : decode b_R_put 121 = .ok (.aload_n 0, 1) := by decide +kernel
theorem d_R_put_122 : decode b_R_put 122 = .ok (.getfield 28, 3) := by decide +kernel
theorem d_R_put_125 : decode b_R_put 125 = .ok (.iload_n 2, 1) := by decide +kernel
theorem d_R_put_126 : decode b_R_put 126 = .ok (.iload_n 1, 1) := by decide +kernel
theorem d_R_put_127 : decode b_R_put 127 = .ok (.iconst 1, 1) := by decide +kernel
theorem d_R_put_128 : decode b_R_put 128 = .ok (.iadd, 1) := by decide +kernel
theorem d_R_put_129 : decode b_R_put 129 = .ok (.iastore, 1) := by decide +kernel
theorem d_R_put_130 : decode b_R_put 130 = .ok (.return_, 1) := by decide +kernel
theorem d_R_leavesOne_0 : decode b_R_leavesOne 0 = .ok (.iconst 0, 1) := by decide +kernel
theorem d_R_leavesOne_1 : decode b_R_leavesOne 1 = .ok (.istore_n 2, 1) := by decide +kernel
theorem d_R_leavesOne_2 : decode b_R_leavesOne 2 = .ok (.iconst 0, 1) := by decide +kernel
theorem d_R_leavesOne_3 : decode b_R_leavesOne 3 = .ok (.istore_n 3, 1) := by decide +kernel
theorem d_R_leavesOne_4 : decode b_R_leavesOne 4 = .ok (.iload_n 3, 1) := by decide +kernel
theorem d_R_leavesOne_5 : decode b_R_leavesOne 5 = .ok (.iconst 4, 1) := by decide +kernel
theorem d_R_leavesOne_6 : decode b_R_leavesOne 6 = .ok (.if_icmp .ge 38, 3) := by decide +kernel
theorem d_R_leavesOne_9 : decode b_R_leavesOne 9 = .ok (.iload_n 2, 1) := by decide +kernel
theorem d_R_leavesOne_10 : decode b_R_leavesOne 10 = .ok (.ifCond .ne 22, 3) := by decide +kernel
theorem d_R_leavesOne_13 : decode b_R_leavesOne 13 = .ok (.iload_n 1, 1) := by decide +kernel
theorem d_R_leavesOne_14 : decode b_R_leavesOne 14 = .ok (.ifCond .lt 22, 3) := by decide +kernel
theorem d_R_leavesOne_17 : decode b_R_leavesOne 17 = .ok (.iload_n 3, 1) := by decide +kernel
theorem d_R_leavesOne_18 : decode b_R_leavesOne 18 = .ok (.iload_n 1, 1) := by decide +kernel
theorem d_R_leavesOne_19 : decode b_R_leavesOne 19 = .ok (.iconst 4, 1) := by decide +kernel
theorem d_R_leavesOne_20 : decode b_R_leavesOne 20 = .ok (.idiv, 1) := by decide +kernel
theorem d_R_leavesOne_21 : decode b_R_leavesOne 21 = .ok (.if_icmp .eq 15, 3) := by decide +kernel
theorem d_R_leavesOne_24 : decode b_R_leavesOne 24 = .ok (.aload_n 0, 1) := by decide +kernel
theorem d_R_leavesOne_25 : decode b_R_leavesOne 25 = .ok (.iload_n 3, 1) := by decide +kernel
theorem d_R_leavesOne_26 : decode b_R_leavesOne 26 = .ok (.invokevirtual 66, 3) := by decide +kernel
theorem d_R_leavesOne_29 : decode b_R_leavesOne 29 = .ok (.ifCond .eq 7, 3) := by decide +kernel
theorem d_R_leavesOne_32 : decode b_R_leavesOne 32 = .ok (.iconst 1, 1) := by decide +kernel
theorem d_R_leavesOne_33 : decode b_R_leavesOne 33 = .ok (.goto 4, 3) := by decide +kernel
theorem d_R_leavesOne_36 : decode b_R_leavesOne 36 = .ok (.iconst 0, 1) := by decide +kernel
theorem d_R_leavesOne_37 : decode b_R_leavesOne 37 = .ok (.istore_n 2, 1) := by decide +kernel
theorem d_R_leavesOne_38 : decode b_R_leavesOne 38 = .ok (.iinc 3 1, 3) := by decide +kernel
theorem d_R_leavesOne_41 : decode b_R_leavesOne 41 = .ok (.goto (-37), 3) := by decide +kernel
theorem d_R_leavesOne_44 : decode b_R_leavesOne 44 = .ok (.iload_n 2, 1) := by decide +kernel
theorem d_R_leavesOne_45 : decode b_R_leavesOne 45 = .ok (.ireturn, 1) := by decide +kernel
theorem d_R_toClean_0 : decode b_R_toClean 0 = .ok (.iconst (-1), 1) := by decide +kernel
theorem d_R_toClean_1 : decode b_R_toClean 1 = .ok (.istore_n 1, 1) := by decide +kernel
theorem d_R_toClean_2 : decode b_R_toClean 2 = .ok (.iconst 0, 1) := by decide +kernel
theorem d_R_toClean_3 : decode b_R_toClean 3 = .ok (.istore_n 2, 1) := by decide +kernel
theorem d_R_toClean_4 : decode b_R_toClean 4 = .ok (.iload_n 2, 1) := by decide +kernel
theorem d_R_toClean_5 : decode b_R_toClean 5 = .ok (.iconst 4, 1) := by decide +kernel
theorem d_R_toClean_6 : decode b_R_toClean 6 = .ok (.if_icmp .ge 131, 3) := by decide +kernel
theorem d_R_toClean_9 : decode b_R_toClean 9 = .ok (.aload_n 0, 1) := by decide +kernel
theorem d_R_toClean_10 : decode b_R_toClean 10 = .ok (.iload_n 2, 1) := by decide +kernel
theorem d_R_toClean_11 : decode b_R_toClean 11 = .ok (.iconst 1, 1) := by decide +kernel
theorem d_R_toClean_12 : decode b_R_toClean 12 = .ok (.invokevirtual 62, 3) := by decide +kernel
theorem d_R_toClean_15 : decode b_R_toClean 15 = .ok (.istore_n 3, 1) := by decide +kernel
theorem d_R_toClean_16 : decode b_R_toClean 16 = .ok (.aload_n 0, 1) := by decide +kernel
theorem d_R_toClean_17 : decode b_R_toClean 17 = .ok (.iload_n 2, 1) := by decide +kernel
theorem d_R_toClean_18 : decode b_R_toClean 18 = .ok (.iconst 0, 1) := by decide +kernel
theorem d_R_toClean_19 : decode b_R_toClean 19 = .ok (.invokevirtual 62, 3) := by decide +kernel
theorem d_R_toClean_22 : decode b_R_toClean 22 = .ok (.ineg, 1) := by decide +kernel
theorem d_R_toClean_23 : decode b_R_toClean 23 = .ok (.istore 4, 2) := by decide +kernel
theorem d_R_toClean_25 : decode b_R_toClean 25 = .ok (.iconst 0, 1) := by decide +kernel
theorem d_R_toClean_26 : decode b_R_toClean 26 = .ok (.istore 5, 2) := by decide +kernel
end
section
theorem d_R_toClean_28 : decode b_R_toClean 28 = .ok (.iload 5, 2) := by decide +kernel
theorem d_R_toClean_30 : decode b_R_toClean 30 = .ok (.iconst 4, 1) := by decide +kernel
theorem d_R_toClean_31 : decode b_R_toClean 31 = .ok (.if_icmp .ge 21, 3) := by decide +kernel
theorem d_R_toClean_34 : decode b_R_toClean 34 = .ok (.iload 4, 2) := by decide +kernel
theorem d_R_toClean_36 : decode b_R_toClean 36 = .ok (.aload_n 0, 1) := by decide +kernel
theorem d_R_toClean_37 : decode b_R_toClean 37 = .ok (.iload 5, 2) := by decide +kernel
theorem d_R_toClean_39 : decode b_R_toClean 39 = .ok (.iconst 0, 1) := by decide +kernel
theorem d_R_toClean_40 : decode b_R_toClean 40 = .ok (.invokevirtual 62, 3) := by decide +kernel
theorem d_R_toClean_43 : decode b_R_toClean 43 = .ok (.iadd, 1) := by decide +kernel
theorem d_R_toClean_44 : decode b_R_toClean 44 = .ok (.istore 4, 2) := by decide +kernel
theorem d_R_toClean_46 : decode b_R_toClean 46 = .ok (.iinc 5 1, 3) := by decide +kernel
theorem d_R_toClean_49 : decode b_R_toClean 49 = .ok (.goto (-21), 3) := by decide +kernel
theorem d_R_toClean_52 : decode b_R_toClean 52 = .ok (.aload_n 0, 1) := by decide +kernel
theorem d_R_toClean_53 : decode b_R_toClean 53 = .ok (.iload_n 2, 1) := by decide +kernel
theorem d_R_toClean_54 : decode b_R_toClean 54 = .ok (.invokevirtual 66, 3) := by decide +kernel
theorem d_R_toClean_57 : decode b_R_toClean 57 = .ok (.ifCond .ne 74, 3) := by decide +kernel
theorem d_R_toClean_60 : decode b_R_toClean 60 = .ok (.iload_n 3, 1) := by decide +kernel
theorem d_R_toClean_61 : decode b_R_toClean 61 = .ok (.iconst 4, 1) := by decide +kernel
theorem d_R_toClean_62 : decode b_R_toClean 62 = .ok (.if_icmp .eq 69, 3) := by decide +kernel
theorem d_R_toClean_65 : decode b_R_toClean 65 = .ok (.iload_n 3, 1) := by decide +kernel
theorem d_R_toClean_66 : decode b_R_toClean 66 = .ok (.iload 4, 2) := by decide +kernel
theorem d_R_toClean_68 : decode b_R_toClean 68 = .ok (.if_icmp .le 6, 3) := by decide +kernel
theorem d_R_toClean_71 : decode b_R_toClean 71 = .ok (.goto 60, 3) := by decide +kernel
theorem d_R_toClean_74 : decode b_R_toClean 74 = .ok (.iload_n 1, 1) := by decide +kernel
theorem d_R_toClean_75 : decode b_R_toClean 75 = .ok (.ifCond .lt 38, 3) := by decide +kernel
theorem d_R_toClean_78 : decode b_R_toClean 78 = .ok (.iload_n 3, 1) := by decide +kernel
theorem d_R_toClean_79 : decode b_R_toClean 79 = .ok (.aload_n 0, 1) := by decide +kernel
theorem d_R_toClean_80 : decode b_R_toClean 80 = .ok (.iload_n 1, 1) := by decide +kernel
theorem d_R_toClean_81 : decode b_R_toClean 81 = .ok (.iconst 1, 1) := by decide +kernel
theorem d_R_toClean_82 : decode b_R_toClean 82 = .ok (.invokevirtual 62, 3) := by decide +kernel
theorem d_R_toClean_85 : decode b_R_toClean 85 = .ok (.if_icmp .lt 28, 3) := by decide +kernel
theorem d_R_toClean_88 : decode b_R_toClean 88 = .ok (.iload_n 3, 1) := by decide +kernel
theorem d_R_toClean_89 : decode b_R_toClean 89 = .ok (.aload_n 0, 1) := by decide +kernel
theorem d_R_toClean_90 : decode b_R_toClean 90 = .ok (.iload_n 1, 1) := by decide +kernel
theorem d_R_toClean_91 : decode b_R_toClean 91 = .ok (.iconst 1, 1) := by decide +kernel
theorem d_R_toClean_92 : decode b_R_toClean 92 = .ok (.invokevirtual 62, 3) := by decide +kernel
theorem d_R_toClean_95 : decode b_R_toClean 95 = .ok (.if_icmp .ne 22, 3) := by decide +kernel
theorem d_R_toClean_98 : decode b_R_toClean 98 = .ok (.aload_n 0, 1) := by decide +kernel
theorem d_R_toClean_99 : decode b_R_toClean 99 = .ok (.getfield 25, 3) := by decide +kernel
theorem d_R_toClean_102 : decode b_R_toClean 102 = .ok (.iload_n 2, 1) := by decide +kernel
theorem d_R_toClean_103 : decode b_R_toClean 103 = .ok (.iaload, 1) := by decide +kernel
theorem d_R_toClean_104 : decode b_R_toClean 104 = .ok (.aload_n 0, 1) := by decide +kernel
theorem d_R_toClean_105 : decode b_R_toClean 105 = .ok (.getfield 25, 3) := by decide +kernel
theorem d_R_toClean_108 : decode b_R_toClean 108 = .ok (.iload_n 1, 1) := by decide +kernel
theorem d_R_toClean_109 : decode b_R_toClean 109 = .ok (.iaload, 1) := by decide +kernel
theorem d_R_toClean_110 : decode b_R_toClean 110 = .ok (.if_icmp .ge 7, 3) := by decide +kernel
theorem d_R_toClean_113 : decode b_R_toClean 113 = .ok (.iconst 1, 1) := by decide +kernel
theorem d_R_toClean_114 : decode b_R_toClean 114 = .ok (.goto 4, 3) := by decide +kernel
theorem d_R_toClean_117 : decode b_R_toClean 117 = .ok (.iconst 0, 1) := by decide +kernel
theorem d_R_toClean_118 : decode b_R_toClean 118 = .ok (.istore 5, 2) := by decide +kernel
theorem d_R_toClean_120 : decode b_R_toClean 120 = .ok (.iload 5, 2) := by decide +kernel
theorem d_R_toClean_122 : decode b_R_toClean 122 = .ok (.ifCond .eq 7, 3) := by decide +kernel
theorem d_R_toClean_125 : decode b_R_toClean 125 = .ok (.iload_n 2, 1) := by decide +kernel
theorem d_R_toClean_126 : decode b_R_toClean 126 = .ok (.goto 4, 3) := by decide +kernel
theorem d_R_toClean_129 : decode b_R_toClean 129 = .ok (.iload_n 1, 1) := by decide +kernel
theorem d_R_toClean_130 : decode b_R_toClean 130 = .ok (.istore_n 1, 1) := by decide +kernel
theorem d_R_toClean_131 : decode b_R_toClean 131 = .ok (.iinc 2 1, 3) := by decide +kernel
theorem d_R_toClean_134 : decode b_R_toClean 134 = .ok (.goto (-130), 3) := by decide +kernel
theorem d_R_toClean_137 : decode b_R_toClean 137 = .ok (.iload_n 1, 1) := by decide +kernel
theorem d_R_toClean_138 : decode b_R_toClean 138 = .ok (.ireturn, 1) := by decide +kernel
theorem d_R_cleanBlock_0 : decode b_R_cleanBlock 0 = .ok (.iconst 4, 1) := by decide +kernel
theorem d_R_cleanBlock_1 : decode b_R_cleanBlock 1 = .ok (.iload_n 1, 1) := by decide +kernel
theorem d_R_cleanBlock_2 : decode b_R_cleanBlock 2 = .ok (.imul, 1) := by decide +kernel
theorem d_R_cleanBlock_3 : decode b_R_cleanBlock 3 = .ok (.istore_n 2, 1) := by decide +kernel
theorem d_R_cleanBlock_4 : decode b_R_cleanBlock 4 = .ok (.iload_n 2, 1) := by decide +kernel
theorem d_R_cleanBlock_5 : decode b_R_cleanBlock 5 = .ok (.iconst 4, 1) := by decide +kernel
theorem d_R_cleanBlock_6 : decode b_R_cleanBlock 6 = .ok (.iload_n 1, 1) := by decide +kernel
theorem d_R_cleanBlock_7 : decode b_R_cleanBlock 7 = .ok (.imul, 1) := by decide +kernel
theorem d_R_cleanBlock_8 : decode b_R_cleanBlock 8 = .ok (.iconst 4, 1) := by decide +kernel
theorem d_R_cleanBlock_9 : decode b_R_cleanBlock 9 = .ok (.iadd, 1) := by decide +kernel
theorem d_R_cleanBlock_10 : decode b_R_cleanBlock 10 = .ok (.if_icmp .ge 62, 3) := by decide +kernel
theorem d_R_cleanBlock_13 : decode b_R_cleanBlock 13 = .ok (.aload_n 0, 1) := by decide +kernel
theorem d_R_cleanBlock_14 : decode b_R_cleanBlock 14 = .ok (.getfield 16, 3) := by decide +kernel
theorem d_R_cleanBlock_17 : decode b_R_cleanBlock 17 = .ok (.iload_n 2, 1) := by decide +kernel
theorem d_R_cleanBlock_18 : decode b_R_cleanBlock 18 = .ok (.iaload, 1) := by decide +kernel
theorem d_R_cleanBlock_19 : decode b_R_cleanBlock 19 = .ok (.iconst 1, 1) := by decide +kernel
theorem d_R_cleanBlock_20 : decode b_R_cleanBlock 20 = .ok (.if_icmp .ne 46, 3) := by decide +kernel
theorem d_R_cleanBlock_23 : decode b_R_cleanBlock 23 = .ok (.aload_n 0, 1) := by decide +kernel
theorem d_R_cleanBlock_24 : decode b_R_cleanBlock 24 = .ok (.iload_n 2, 1) := by decide +kernel
theorem d_R_cleanBlock_25 : decode b_R_cleanBlock 25 = .ok (.invokevirtual 79, 3) := by decide +kernel
theorem d_R_cleanBlock_28 : decode b_R_cleanBlock 28 = .ok (.ifCond .eq 26, 3) := by decide +kernel
theorem d_R_cleanBlock_31 : decode b_R_cleanBlock 31 = .ok (.aload_n 0, 1) := by decide +kernel
theorem d_R_cleanBlock_32 : decode b_R_cleanBlock 32 = .ok (.aload_n 0, 1) := by decide +kernel
theorem d_R_cleanBlock_33 : decode b_R_cleanBlock 33 = .ok (.iload_n 1, 1) := by decide +kernel
theorem d_R_cleanBlock_34 : decode b_R_cleanBlock 34 = .ok (.invokevirtual 82, 3) := by decide +kernel
theorem d_R_cleanBlock_37 : decode b_R_cleanBlock 37 = .ok (.aload_n 0, 1) := by decide +kernel
theorem d_R_cleanBlock_38 : decode b_R_cleanBlock 38 = .ok (.getfield 19, 3) := by decide +kernel
theorem d_R_cleanBlock_41 : decode b_R_cleanBlock 41 = .ok (.iload_n 2, 1) := by decide +kernel
theorem d_R_cleanBlock_42 : decode b_R_cleanBlock 42 = .ok (.iaload, 1) := by decide +kernel
theorem d_R_cleanBlock_43 : decode b_R_cleanBlock 43 = .ok (.aload_n 0, 1) := by decide +kernel
theorem d_R_cleanBlock_44 : decode b_R_cleanBlock 44 = .ok (.iload_n 2, 1) := by decide +kernel
theorem d_R_cleanBlock_45 : decode b_R_cleanBlock 45 = .ok (.invokevirtual 85, 3) := by decide +kernel
theorem d_R_cleanBlock_48 : decode b_R_cleanBlock 48 = .ok (.invokevirtual 89, 3) := by decide +kernel
theorem d_R_cleanBlock_51 : decode b_R_cleanBlock 51 = .ok (.goto 15, 3) := by decide +kernel
theorem d_R_cleanBlock_54 : decode b_R_cleanBlock 54 = .ok (.aload_n 0, 1) := by decide +kernel
theorem d_R_cleanBlock_55 : decode b_R_cleanBlock 55 = .ok (.getfield 28, 3) := by decide +kernel
theorem d_R_cleanBlock_58 : decode b_R_cleanBlock 58 = .ok (.aload_n 0, 1) := by decide +kernel
theorem d_R_cleanBlock_59 : decode b_R_cleanBlock 59 = .ok (.getfield 19, 3) := by decide +kernel
theorem d_R_cleanBlock_62 : decode b_R_cleanBlock 62 = .ok (.iload_n 2, 1) := by decide +kernel
theorem d_R_cleanBlock_63 : decode b_R_cleanBlock 63 = .ok (.iaload, 1) := by decide +kernel
theorem d_R_cleanBlock_64 : decode b_R_cleanBlock 64 = .ok (.iconst 0, 1) := by decide +kernel
theorem d_R_cleanBlock_65 : decode b_R_cleanBlock 65 = .ok (.iastore, 1) := by decide +kernel
theorem d_R_cleanBlock_66 : decode b_R_cleanBlock 66 = .ok (.iinc 2 1, 3) := by decide +kernel
theorem d_R_cleanBlock_69 : decode b_R_cleanBlock 69 = .ok (.goto (-65), 3) := by decide +kernel
theorem d_R_cleanBlock_72 : decode b_R_cleanBlock 72 = .ok (.iconst 4, 1) := by decide +kernel
theorem d_R_cleanBlock_73 : decode b_R_cleanBlock 73 = .ok (.iload_n 1, 1) := by decide +kernel
theorem d_R_cleanBlock_74 : decode b_R_cleanBlock 74 = .ok (.imul, 1) := by decide +kernel
theorem d_R_cleanBlock_75 : decode b_R_cleanBlock 75 = .ok (.istore_n 2, 1) := by decide +kernel
theorem d_R_cleanBlock_76 : decode b_R_cleanBlock 76 = .ok (.iload_n 2, 1) := by decide +kernel
theorem d_R_cleanBlock_77 : decode b_R_cleanBlock 77 = .ok (.iconst 4, 1) := by decide +kernel
theorem d_R_cleanBlock_78 : decode b_R_cleanBlock 78 = .ok (.iload_n 1, 1) := by decide +kernel
theorem d_R_cleanBlock_79 : decode b_R_cleanBlock 79 = .ok (.imul, 1) := by decide +kernel
theorem d_R_cleanBlock_80 : decode b_R_cleanBlock 80 = .ok (.iconst 4, 1) := by decide +kernel
theorem d_R_cleanBlock_81 : decode b_R_cleanBlock 81 = .ok (.iadd, 1) := by decide +kernel
theorem d_R_cleanBlock_82 : decode b_R_cleanBlock 82 = .ok (.if_icmp .ge 41, 3) := by decide +kernel
theorem d_R_cleanBlock_85 : decode b_R_cleanBlock 85 = .ok (.aload_n 0, 1) := by decide +kernel
theorem d_R_cleanBlock_86 : decode b_R_cleanBlock 86 = .ok (.getfield 16, 3) := by decide +kernel
theorem d_R_cleanBlock_89 : decode b_R_cleanBlock 89 = .ok (.iload_n 2, 1) := by decide +kernel
theorem d_R_cleanBlock_90 : decode b_R_cleanBlock 90 = .ok (.iconst 0, 1) := by decide +kernel
theorem d_R_cleanBlock_91 : decode b_R_cleanBlock 91 = .ok (.iastore, 1) := by decide +kernel
theorem d_R_cleanBlock_92 : decode b_R_cleanBlock 92 = .ok (.iconst 0, 1) := by decide +kernel
theorem d_R_cleanBlock_93 : decode b_R_cleanBlock 93 = .ok (.istore_n 3, 1) := by decide +kernel
theorem d_R_cleanBlock_94 : decode b_R_cleanBlock 94 = .ok (.iload_n 3, 1) := by decide +kernel
theorem d_R_cleanBlock_95 : decode b_R_cleanBlock 95 = .ok (.iconst 5, 1) := by decide +kernel
theorem d_R_cleanBlock_96 : decode b_R_cleanBlock 96 = .ok (.if_icmp .ge 21, 3) := by decide +kernel
theorem d_R_cleanBlock_99 : decode b_R_cleanBlock 99 = .ok (.aload_n 0, 1) := by decide +kernel
theorem d_R_cleanBlock_100 : decode b_R_cleanBlock 100 = .ok (.getfield 13, 3) := by decide +kernel
theorem d_R_cleanBlock_103 : decode b_R_cleanBlock 103 = .ok (.iconst 5, 1) := by decide +kernel
theorem d_R_cleanBlock_104 : decode b_R_cleanBlock 104 = .ok (.iload_n 2, 1) := by decide +kernel
theorem d_R_cleanBlock_105 : decode b_R_cleanBlock 105 = .ok (.imul, 1) := by decide +kernel
theorem d_R_cleanBlock_106 : decode b_R_cleanBlock 106 = .ok (.iload_n 3, 1) := by decide +kernel
theorem d_R_cleanBlock_107 : decode b_R_cleanBlock 107 = .ok (.iadd, 1) := by decide +kernel
theorem d_R_cleanBlock_108 : decode b_R_cleanBlock 108 = .ok (.ldc 32, 2) := by decide +kernel
theorem d_R_cleanBlock_110 : decode b_R_cleanBlock 110 = .ok (.iastore, 1) := by decide +kernel
theorem d_R_cleanBlock_111 : decode b_R_cleanBlock 111 = .ok (.iinc 3 1, 3) := by decide +kernel
theorem d_R_cleanBlock_114 : decode b_R_cleanBlock 114 = .ok (.goto (-20), 3) := by decide +kernel
theorem d_R_cleanBlock_117 : decode b_R_cleanBlock 117 = .ok (.iinc 2 1, 3) := by decide +kernel
theorem d_R_cleanBlock_120 : decode b_R_cleanBlock 120 = .ok (.goto (-44), 3) := by decide +kernel
theorem d_R_cleanBlock_123 : decode b_R_cleanBlock 123 = .ok (.aload_n 0, 1) := by decide +kernel
theorem d_R_cleanBlock_124 : decode b_R_cleanBlock 124 = .ok (.getfield 25, 3) := by decide +kernel
theorem d_R_cleanBlock_127 : decode b_R_cleanBlock 127 = .ok (.iload_n 1, 1) := by decide +kernel
theorem d_R_cleanBlock_128 : decode b_R_cleanBlock 128 = .ok (.dup2, 1) := by decide +kernel
theorem d_R_cleanBlock_129 : decode b_R_cleanBlock 129 = .ok (.iaload, 1) := by decide +kernel
theorem d_R_cleanBlock_130 : decode b_R_cleanBlock 130 = .ok (.iconst 1, 1) := by decide +kernel
theorem d_R_cleanBlock_131 : decode b_R_cleanBlock 131 = .ok (.iadd, 1) := by decide +kernel
theorem d_R_cleanBlock_132 : decode b_R_cleanBlock 132 = .ok (.iastore, 1) := by decide +kernel
theorem d_R_cleanBlock_133 : decode b_R_cleanBlock 133 = .ok (.return_, 1) := by decide +kernel
theorem d_R_clean_0 : decode b_R_clean 0 = .ok (.aload_n 0, 1) := by decide +kernel
theorem d_R_clean_1 : decode b_R_clean 1 = .ok (.invokevirtual 93, 3) := by decide +kernel
theorem d_R_clean_4 : decode b_R_clean 4 = .ok (.istore_n 1, 1) := by decide +kernel
theorem d_R_clean_5 : decode b_R_clean 5 = .ok (.aload_n 0, 1) := by decide +kernel
theorem d_R_clean_6 : decode b_R_clean 6 = .ok (.iload_n 1, 1) := by decide +kernel
theorem d_R_clean_7 : decode b_R_clean 7 = .ok (.ifCond .ge 7, 3) := by decide +kernel
theorem d_R_clean_10 : decode b_R_clean 10 = .ok (.iconst 1, 1) := by decide +kernel
theorem d_R_clean_11 : decode b_R_clean 11 = .ok (.goto 4, 3) := by decide +kernel
theorem d_R_clean_14 : decode b_R_clean 14 = .ok (.iconst 0, 1) := by decide +kernel
theorem d_R_clean_15 : decode b_R_clean 15 = .ok (.putfield 33, 3) := by decide +kernel
theorem d_R_clean_18 : decode b_R_clean 18 = .ok (.aload_n 0, 1) := by decide +kernel
theorem d_R_clean_19 : decode b_R_clean 19 = .ok (.getfield 33, 3) := by decide +kernel
theorem d_R_clean_22 : decode b_R_clean 22 = .ok (.ifCond .le 5, 3) := by decide +kernel
theorem d_R_clean_25 : decode b_R_clean 25 = .ok (.iconst 0, 1) := by decide +kernel
theorem d_R_clean_26 : decode b_R_clean 26 = .ok (.ireturn, 1) := by decide +kernel
theorem d_R_clean_27 : decode b_R_clean 27 = .ok (.aload_n 0, 1) := by decide +kernel
theorem d_R_clean_28 : decode b_R_clean 28 = .ok (.iload_n 1, 1) := by decide +kernel
theorem d_R_clean_29 : decode b_R_clean 29 = .ok (.invokevirtual 97, 3) := by decide +kernel
theorem d_R_clean_32 : decode b_R_clean 32 = .ok (.iload_n 1, 1) := by decide +kernel
theorem d_R_clean_33 : decode b_R_clean 33 = .ok (.ireturn, 1) := by decide +kernel
theorem d_R_write_0 : decode b_R_write 0 = .ok (.aload_n 0, 1) := by decide +kernel
theorem d_R_write_1 : decode b_R_write 1 = .ok (.iload_n 1, 1) := by decide +kernel
theorem d_R_write_2 : decode b_R_write 2 = .ok (.bipush 8, 2) := by decide +kernel
theorem d_R_write_4 : decode b_R_write 4 = .ok (.invokestatic 46, 3) := by decide +kernel
theorem d_R_write_7 : decode b_R_write 7 = .ok (.ifCond .eq 7, 3) := by decide +kernel
theorem d_R_write_10 : decode b_R_write 10 = .ok (.iconst 1, 1) := by decide +kernel
theorem d_R_write_11 : decode b_R_write 11 = .ok (.goto 4, 3) := by decide +kernel
theorem d_R_write_14 : decode b_R_write 14 = .ok (.iconst 0, 1) := by decide +kernel
theorem d_R_write_15 : decode b_R_write 15 = .ok (.putfield 33, 3) := by decide +kernel
theorem d_R_write_18 : decode b_R_write 18 = .ok (.aload_n 0, 1) := by decide +kernel
theorem d_R_write_19 : decode b_R_write 19 = .ok (.getfield 33, 3) := by decide +kernel
theorem d_R_write_22 : decode b_R_write 22 = .ok (.ifCond .ne 43, 3) := by decide +kernel
theorem d_R_write_25 : decode b_R_write 25 = .ok (.aload_n 0, 1) := by decide +kernel
theorem d_R_write_26 : decode b_R_write 26 = .ok (.aload_n 0, 1) := by decide +kernel
theorem d_R_write_27 : decode b_R_write 27 = .ok (.iconst (-1), 1) := by decide +kernel
theorem d_R_write_28 : decode b_R_write 28 = .ok (.invokevirtual 82, 3) := by decide +kernel
theorem d_R_write_31 : decode b_R_write 31 = .ok (.invokevirtual 101, 3) := by decide +kernel
theorem d_R_write_34 : decode b_R_write 34 = .ok (.ifCond .ne 31, 3) := by decide +kernel
theorem d_R_write_37 : decode b_R_write 37 = .ok (.aload_n 0, 1) := by decide +kernel
theorem d_R_write_38 : decode b_R_write 38 = .ok (.invokevirtual 93, 3) := by decide +kernel
theorem d_R_write_41 : decode b_R_write 41 = .ok (.istore 4, 2) := by decide +kernel
theorem d_R_write_43 : decode b_R_write 43 = .ok (.iload 4, 2) := by decide +kernel
theorem d_R_write_45 : decode b_R_write 45 = .ok (.ifCond .ge 11, 3) := by decide +kernel
theorem d_R_write_48 : decode b_R_write 48 = .ok (.aload_n 0, 1) := by decide +kernel
theorem d_R_write_49 : decode b_R_write 49 = .ok (.iconst 2, 1) := by decide +kernel
theorem d_R_write_50 : decode b_R_write 50 = .ok (.putfield 33, 3) := by decide +kernel
theorem d_R_write_53 : decode b_R_write 53 = .ok (.goto 9, 3) := by decide +kernel
theorem d_R_write_56 : decode b_R_write 56 = .ok (.aload_n 0, 1) := by decide +kernel
theorem d_R_write_57 : decode b_R_write 57 = .ok (.iload 4, 2) := by decide +kernel
theorem d_R_write_59 : decode b_R_write 59 = .ok (.invokevirtual 97, 3) := by decide +kernel
theorem d_R_write_62 : decode b_R_write 62 = .ok (.goto (-44), 3) := by decide +kernel
theorem d_R_write_65 : decode b_R_write 65 = .ok (.aload_n 0, 1) := by decide +kernel
theorem d_R_write_66 : decode b_R_write 66 = .ok (.getfield 33, 3) := by decide +kernel
theorem d_R_write_69 : decode b_R_write 69 = .ok (.ifCond .ne 14, 3) := by decide +kernel
theorem d_R_write_72 : decode b_R_write 72 = .ok (.aload_n 0, 1) := by decide +kernel
theorem d_R_write_73 : decode b_R_write 73 = .ok (.aload_n 0, 1) := by decide +kernel
theorem d_R_write_74 : decode b_R_write 74 = .ok (.iconst (-1), 1) := by decide +kernel
theorem d_R_write_75 : decode b_R_write 75 = .ok (.invokevirtual 82, 3) := by decide +kernel
theorem d_R_write_78 : decode b_R_write 78 = .ok (.iload_n 1, 1) := by decide +kernel
theorem d_R_write_79 : decode b_R_write 79 = .ok (.lload_n 2, 1) := by decide +kernel
theorem d_R_write_80 : decode b_R_write 80 = .ok (.invokevirtual 89, 3) := by decide +kernel
theorem d_R_write_83 : decode b_R_write 83 = .ok (.return_, 1) := by decide +kernel
theorem d_R_read_0 : decode b_R_read 0 = .ok (.aload_n 0, 1) := by decide +kernel
theorem d_R_read_1 : decode b_R_read 1 = .ok (.iload_n 1, 1) := by decide +kernel
theorem d_R_read_2 : decode b_R_read 2 = .ok (.bipush 8, 2) := by decide +kernel
theorem d_R_read_4 : decode b_R_read 4 = .ok (.invokestatic 46, 3) := by decide +kernel
theorem d_R_read_7 : decode b_R_read 7 = .ok (.ifCond .eq 7, 3) := by decide +kernel
theorem d_R_read_10 : decode b_R_read 10 = .ok (.iconst 1, 1) := by decide +kernel
theorem d_R_read_11 : decode b_R_read 11 = .ok (.goto 4, 3) := by decide +kernel
theorem d_R_read_14 : decode b_R_read 14 = .ok (.iconst 0, 1) := by decide +kernel
theorem d_R_read_15 : decode b_R_read 15 = .ok (.putfield 33, 3) := by decide +kernel
theorem d_R_read_18 : decode b_R_read 18 = .ok (.aload_n 0, 1) := by decide +kernel
theorem d_R_read_19 : decode b_R_read 19 = .ok (.getfield 33, 3) := by decide +kernel
theorem d_R_read_22 : decode b_R_read 22 = .ok (.ifCond .le 5, 3) := by decide +kernel
theorem d_R_read_25 : decode b_R_read 25 = .ok (.lconst 0, 1) := by decide +kernel
theorem d_R_read_26 : decode b_R_read 26 = .ok (.lreturn, 1) := by decide +kernel
theorem d_R_read_27 : decode b_R_read 27 = .ok (.aload_n 0, 1) := by decide +kernel
theorem d_R_read_28 : decode b_R_read 28 = .ok (.getfield 28, 3) := by decide +kernel
theorem d_R_read_31 : decode b_R_read 31 = .ok (.iload_n 1, 1) := by decide +kernel
theorem d_R_read_32 : decode b_R_read 32 = .ok (.iaload, 1) := by decide +kernel
theorem d_R_read_33 : decode b_R_read 33 = .ok (.iconst 1, 1) := by decide +kernel
theorem d_R_read_34 : decode b_R_read 34 = .ok (.isub, 1) := by decide +kernel
theorem d_R_read_35 : decode b_R_read 35 = .ok (.istore_n 2, 1) := by decide +kernel
theorem d_R_read_36 : decode b_R_read 36 = .ok (.aload_n 0, 1) := by decide +kernel
theorem d_R_read_37 : decode b_R_read 37 = .ok (.iload_n 2, 1) := by decide +kernel
theorem d_R_read_38 : decode b_R_read 38 = .ok (.ifCond .ge 7, 3) := by decide +kernel
theorem d_R_read_41 : decode b_R_read 41 = .ok (.iconst 2, 1) := by decide +kernel
theorem d_R_read_42 : decode b_R_read 42 = .ok (.goto 16, 3) := by decide +kernel
theorem d_R_read_45 : decode b_R_read 45 = .ok (.aload_n 0, 1) := by decide +kernel
theorem d_R_read_46 : decode b_R_read 46 = .ok (.iload_n 2, 1) := by decide +kernel
theorem d_R_read_47 : decode b_R_read 47 = .ok (.invokevirtual 79, 3) := by decide +kernel
theorem d_R_read_50 : decode b_R_read 50 = .ok (.ifCond .eq 7, 3) := by decide +kernel
theorem d_R_read_53 : decode b_R_read 53 = .ok (.iconst 0, 1) := by decide +kernel
theorem d_R_read_54 : decode b_R_read 54 = .ok (.goto 4, 3) := by decide +kernel
theorem d_R_read_57 : decode b_R_read 57 = .ok (.iconst 3, 1) := by decide +kernel
theorem d_R_read_58 : decode b_R_read 58 = .ok (.putfield 33, 3) := by decide +kernel
theorem d_R_read_61 : decode b_R_read 61 = .ok (.aload_n 0, 1) := by decide +kernel
theorem d_R_read_62 : decode b_R_read 62 = .ok (.getfield 33, 3) := by decide +kernel
theorem d_R_read_65 : decode b_R_read 65 = .ok (.ifCond .le 7, 3) := by decide +kernel
theorem d_R_read_68 : decode b_R_read 68 = .ok (.lconst 0, 1) := by decide +kernel
theorem d_R_read_69 : decode b_R_read 69 = .ok (.goto 8, 3) := by decide +kernel
theorem d_R_read_72 : decode b_R_read 72 = .ok (.aload_n 0, 1) := by decide +kernel
theorem d_R_read_73 : decode b_R_read 73 = .ok (.iload_n 2, 1) := by decide +kernel
theorem d_R_read_74 : decode b_R_read 74 = .ok (.invokevirtual 85, 3) := by decide +kernel
theorem d_R_read_77 : decode b_R_read 77 = .ok (.lreturn, 1) := by decide +kernel
theorem d_R_trim_0 : decode b_R_trim 0 = .ok (.aload_n 0, 1) := by decide +kernel
theorem d_R_trim_1 : decode b_R_trim 1 = .ok (.iload_n 1, 1) := by decide +kernel
theorem d_R_trim_2 : decode b_R_trim 2 = .ok (.bipush 8, 2) := by decide +kernel
theorem d_R_trim_4 : decode b_R_trim 4 = .ok (.invokestatic 46, 3) := by decide +kernel
theorem d_R_trim_7 : decode b_R_trim 7 = .ok (.ifCond .eq 7, 3) := by decide +kernel
theorem d_R_trim_10 : decode b_R_trim 10 = .ok (.iconst 1, 1) := by decide +kernel
theorem d_R_trim_11 : decode b_R_trim 11 = .ok (.goto 4, 3) := by decide +kernel
theorem d_R_trim_14 : decode b_R_trim 14 = .ok (.iconst 0, 1) := by decide +kernel
theorem d_R_trim_15 : decode b_R_trim 15 = .ok (.putfield 33, 3) := by decide +kernel
theorem d_R_trim_18 : decode b_R_trim 18 = .ok (.aload_n 0, 1) := by decide +kernel
theorem d_R_trim_19 : decode b_R_trim 19 = .ok (.getfield 33, 3) := by decide +kernel
theorem d_R_trim_22 : decode b_R_trim 22 = .ok (.ifCond .gt 12, 3) := by decide +kernel
theorem d_R_trim_25 : decode b_R_trim 25 = .ok (.aload_n 0, 1) := by decide +kernel
theorem d_R_trim_26 : decode b_R_trim 26 = .ok (.getfield 28, 3) := by decide +kernel
theorem d_R_trim_29 : decode b_R_trim 29 = .ok (.iload_n 1, 1) := by decide +kernel
theorem d_R_trim_30 : decode b_R_trim 30 = .ok (.iaload, 1) := by decide +kernel
theorem d_R_trim_31 : decode b_R_trim 31 = .ok (.ifCond .ne 5, 3) := by decide +kernel
theorem d_R_trim_34 : decode b_R_trim 34 = .ok (.iconst 0, 1) := by decide +kernel
theorem d_R_trim_35 : decode b_R_trim 35 = .ok (.ireturn, 1) := by decide +kernel
theorem d_R_trim_36 : decode b_R_trim 36 = .ok (.aload_n 0, 1) := by decide +kernel
theorem d_R_trim_37 : decode b_R_trim 37 = .ok (.getfield 16, 3) := by decide +kernel
theorem d_R_trim_40 : decode b_R_trim 40 = .ok (.aload_n 0, 1) := by decide +kernel
theorem d_R_trim_41 : decode b_R_trim 41 = .ok (.getfield 28, 3) := by decide +kernel
theorem d_R_trim_44 : decode b_R_trim 44 = .ok (.iload_n 1, 1) := by decide +kernel
theorem d_R_trim_45 : decode b_R_trim 45 = .ok (.iaload, 1) := by decide +kernel
theorem d_R_trim_46 : decode b_R_trim 46 = .ok (.iconst 1, 1) := by decide +kernel
theorem d_R_trim_47 : decode b_R_trim 47 = .ok (.isub, 1) := by decide +kernel
theorem d_R_trim_48 : decode b_R_trim 48 = .ok (.iconst 2, 1) := by decide +kernel
theorem d_R_trim_49 : decode b_R_trim 49 = .ok (.iastore, 1) := by decide +kernel
theorem d_R_trim_50 : decode b_R_trim 50 = .ok (.aload_n 0, 1) := by decide +kernel
theorem d_R_trim_51 : decode b_R_trim 51 = .ok (.getfield 28, 3) := by decide +kernel
theorem d_R_trim_54 : decode b_R_trim 54 = .ok (.iload_n 1, 1) := by decide +kernel
theorem d_R_trim_55 : decode b_R_trim 55 = .ok (.iconst 0, 1) := by decide +kernel
theorem d_R_trim_56 : decode b_R_trim 56 = .ok (.iastore, 1) := by decide +kernel
theorem d_R_trim_57 : decode b_R_trim 57 = .ok (.iconst 1, 1) := by decide +kernel
theorem d_R_trim_58 : decode b_R_trim 58 = .ok (.ireturn, 1) := by decide +kernel
theorem d_R_mount_0 : decode b_R_mount 0 = .ok (.aload_n 0, 1) := by decide +kernel
theorem d_R_mount_1 : decode b_R_mount 1 = .ok (.iconst 0, 1) := by decide +kernel
theorem d_R_mount_2 : decode b_R_mount 2 = .ok (.putfield 33, 3) := by decide +kernel
theorem d_R_mount_5 : decode b_R_mount 5 = .ok (.iconst 0, 1) := by decide +kernel
theorem d_R_mount_6 : decode b_R_mount 6 = .ok (.istore_n 1, 1) := by decide +kernel
theorem d_R_mount_7 : decode b_R_mount 7 = .ok (.iload_n 1, 1) := by decide +kernel
theorem d_R_mount_8 : decode b_R_mount 8 = .ok (.bipush 8, 2) := by decide +kernel
theorem d_R_mount_10 : decode b_R_mount 10 = .ok (.if_icmp .ge 16, 3) := by decide +kernel
theorem d_R_mount_13 : decode b_R_mount 13 = .ok (.aload_n 0, 1) := by decide +kernel
theorem d_R_mount_14 : decode b_R_mount 14 = .ok (.getfield 28, 3) := by decide +kernel
theorem d_R_mount_17 : decode b_R_mount 17 = .ok (.iload_n 1, 1) := by decide +kernel
theorem d_R_mount_18 : decode b_R_mount 18 = .ok (.iconst 0, 1) := by decide +kernel
theorem d_R_mount_19 : decode b_R_mount 19 = .ok (.iastore, 1) := by decide +kernel
theorem d_R_mount_20 : decode b_R_mount 20 = .ok (.iinc 1 1, 3) := by decide +kernel
theorem d_R_mount_23 : decode b_R_mount 23 = .ok (.goto (-16), 3) := by decide +kernel
theorem d_R_mount_26 : decode b_R_mount 26 = .ok (.iconst (-1), 1) := by decide +kernel
theorem d_R_mount_27 : decode b_R_mount 27 = .ok (.istore_n 1, 1) := by decide +kernel
theorem d_R_mount_28 : decode b_R_mount 28 = .ok (.iconst 0, 1) := by decide +kernel
theorem d_R_mount_29 : decode b_R_mount 29 = .ok (.istore_n 2, 1) := by decide +kernel
theorem d_R_mount_30 : decode b_R_mount 30 = .ok (.iconst 0, 1) := by decide +kernel
theorem d_R_mount_31 : decode b_R_mount 31 = .ok (.istore_n 3, 1) := by decide +kernel
theorem d_R_mount_32 : decode b_R_mount 32 = .ok (.iload_n 3, 1) := by decide +kernel
theorem d_R_mount_33 : decode b_R_mount 33 = .ok (.bipush 16, 2) := by decide +kernel
theorem d_R_mount_35 : decode b_R_mount 35 = .ok (.if_icmp .ge 185, 3) := by decide +kernel
theorem d_R_mount_38 : decode b_R_mount 38 = .ok (.aload_n 0, 1) := by decide +kernel
theorem d_R_mount_39 : decode b_R_mount 39 = .ok (.aload_n 0, 1) := by decide +kernel
theorem d_R_mount_40 : decode b_R_mount 40 = .ok (.getfield 13, 3) := by decide +kernel
theorem d_R_mount_43 : decode b_R_mount 43 = .ok (.iconst 5, 1) := by decide +kernel
theorem d_R_mount_44 : decode b_R_mount 44 = .ok (.iload_n 3, 1) := by decide +kernel
theorem d_R_mount_45 : decode b_R_mount 45 = .ok (.imul, 1) := by decide +kernel
theorem d_R_mount_46 : decode b_R_mount 46 = .ok (.iconst 4, 1) := by decide +kernel
theorem d_R_mount_47 : decode b_R_mount 47 = .ok (.iadd, 1) := by decide +kernel
theorem d_R_mount_48 : decode b_R_mount 48 = .ok (.iaload, 1) := by decide +kernel
theorem d_R_mount_49 : decode b_R_mount 49 = .ok (.invokevirtual 56, 3) := by decide +kernel
theorem d_R_mount_52 : decode b_R_mount 52 = .ok (.istore 4, 2) := by decide +kernel
theorem d_R_mount_54 : decode b_R_mount 54 = .ok (.aload_n 0, 1) := by decide +kernel
theorem d_R_mount_55 : decode b_R_mount 55 = .ok (.getfield 16, 3) := by decide +kernel
theorem d_R_mount_58 : decode b_R_mount 58 = .ok (.iload_n 3, 1) := by decide +kernel
theorem d_R_mount_59 : decode b_R_mount 59 = .ok (.iload 4, 2) := by decide +kernel
theorem d_R_mount_61 : decode b_R_mount 61 = .ok (.ldc 104, 2) := by decide +kernel
theorem d_R_mount_63 : decode b_R_mount 63 = .ok (.if_icmp .ne 7, 3) := by decide +kernel
theorem d_R_mount_66 : decode b_R_mount 66 = .ok (.iconst 0, 1) := by decide +kernel
theorem d_R_mount_67 : decode b_R_mount 67 = .ok (.goto 4, 3) := by decide +kernel
theorem d_R_mount_70 : decode b_R_mount 70 = .ok (.iconst 2, 1) := by decide +kernel
theorem d_R_mount_71 : decode b_R_mount 71 = .ok (.iastore, 1) := by decide +kernel
theorem d_R_mount_72 : decode b_R_mount 72 = .ok (.iload 4, 2) := by decide +kernel
theorem d_R_mount_74 : decode b_R_mount 74 = .ok (.ifCond .lt 140, 3) := by decide +kernel
theorem d_R_mount_77 : decode b_R_mount 77 = .ok (.iload 4, 2) := by decide +kernel
theorem d_R_mount_79 : decode b_R_mount 79 = .ok (.ldc 37, 2) := by decide +kernel
theorem d_R_mount_81 : decode b_R_mount 81 = .ok (.if_icmp .ge 133, 3) := by decide +kernel
theorem d_R_mount_84 : decode b_R_mount 84 = .ok (.iload 4, 2) := by decide +kernel
theorem d_R_mount_86 : decode b_R_mount 86 = .ok (.sipush 4096, 3) := by decide +kernel
theorem d_R_mount_89 : decode b_R_mount 89 = .ok (.idiv, 1) := by decide +kernel
theorem d_R_mount_90 : decode b_R_mount 90 = .ok (.istore 5, 2) := by decide +kernel
theorem d_R_mount_92 : decode b_R_mount 92 = .ok (.aload_n 0, 1) := by decide +kernel
theorem d_R_mount_93 : decode b_R_mount 93 = .ok (.getfield 19, 3) := by decide +kernel
theorem d_R_mount_96 : decode b_R_mount 96 = .ok (.iload_n 3, 1) := by decide +kernel
theorem d_R_mount_97 : decode b_R_mount 97 = .ok (.iload 5, 2) := by decide +kernel
theorem d_R_mount_99 : decode b_R_mount 99 = .ok (.iastore, 1) := by decide +kernel
theorem d_R_mount_100 : decode b_R_mount 100 = .ok (.aload_n 0, 1) := by decide +kernel
theorem d_R_mount_101 : decode b_R_mount 101 = .ok (.getfield 22, 3) := by decide +kernel
theorem d_R_mount_104 : decode b_R_mount 104 = .ok (.iload_n 3, 1) := by decide +kernel
theorem d_R_mount_105 : decode b_R_mount 105 = .ok (.iload 4, 2) := by decide +kernel
theorem d_R_mount_107 : decode b_R_mount 107 = .ok (.sipush 4096, 3) := by decide +kernel
theorem d_R_mount_110 : decode b_R_mount 110 = .ok (.irem, 1) := by decide +kernel
theorem d_R_mount_111 : decode b_R_mount 111 = .ok (.iastore, 1) := by decide +kernel
theorem d_R_mount_112 : decode b_R_mount 112 = .ok (.aload_n 0, 1) := by decide +kernel
theorem d_R_mount_113 : decode b_R_mount 113 = .ok (.getfield 28, 3) := by decide +kernel
theorem d_R_mount_116 : decode b_R_mount 116 = .ok (.iload 5, 2) := by decide +kernel
theorem d_R_mount_118 : decode b_R_mount 118 = .ok (.iaload, 1) := by decide +kernel
theorem d_R_mount_119 : decode b_R_mount 119 = .ok (.iconst 1, 1) := by decide +kernel
theorem d_R_mount_120 : decode b_R_mount 120 = .ok (.isub, 1) := by decide +kernel
theorem d_R_mount_121 : decode b_R_mount 121 = .ok (.istore 6, 2) := by decide +kernel
theorem d_R_mount_123 : decode b_R_mount 123 = .ok (.iload 6, 2) := by decide +kernel
theorem d_R_mount_125 : decode b_R_mount 125 = .ok (.ifCond .lt 22, 3) := by decide +kernel
theorem d_R_mount_128 : decode b_R_mount 128 = .ok (.aload_n 0, 1) := by decide +kernel
theorem d_R_mount_129 : decode b_R_mount 129 = .ok (.getfield 22, 3) := by decide +kernel
theorem d_R_mount_132 : decode b_R_mount 132 = .ok (.iload_n 3, 1) := by decide +kernel
theorem d_R_mount_133 : decode b_R_mount 133 = .ok (.iaload, 1) := by decide +kernel
theorem d_R_mount_134 : decode b_R_mount 134 = .ok (.aload_n 0, 1) := by decide +kernel
theorem d_R_mount_135 : decode b_R_mount 135 = .ok (.getfield 22, 3) := by decide +kernel
theorem d_R_mount_138 : decode b_R_mount 138 = .ok (.iload 6, 2) := by decide +kernel
theorem d_R_mount_140 : decode b_R_mount 140 = .ok (.iaload, 1) := by decide +kernel
theorem d_R_mount_141 : decode b_R_mount 141 = .ok (.invokestatic 105, 3) := by decide +kernel
theorem d_R_mount_144 : decode b_R_mount 144 = .ok (.ifCond .eq 46, 3) := by decide +kernel
theorem d_R_mount_147 : decode b_R_mount 147 = .ok (.iload 6, 2) := by decide +kernel
theorem d_R_mount_149 : decode b_R_mount 149 = .ok (.ifCond .ge 9, 3) := by decide +kernel
theorem d_R_mount_152 : decode b_R_mount 152 = .ok (.iload_n 2, 1) := by decide +kernel
theorem d_R_mount_153 : decode b_R_mount 153 = .ok (.iconst 1, 1) := by decide +kernel
theorem d_R_mount_154 : decode b_R_mount 154 = .ok (.iadd, 1) := by decide +kernel
theorem d_R_mount_155 : decode b_R_mount 155 = .ok (.goto 4, 3) := by decide +kernel
theorem d_R_mount_158 : decode b_R_mount 158 = .ok (.iload_n 2, 1) := by decide +kernel
theorem d_R_mount_159 : decode b_R_mount 159 = .ok (.istore_n 2, 1) := by decide +kernel
theorem d_R_mount_160 : decode b_R_mount 160 = .ok (.iload 6, 2) := by decide +kernel
theorem d_R_mount_162 : decode b_R_mount 162 = .ok (.ifCond .lt 11, 3) := by decide +kernel
theorem d_R_mount_165 : decode b_R_mount 165 = .ok (.aload_n 0, 1) := by decide +kernel
theorem d_R_mount_166 : decode b_R_mount 166 = .ok (.getfield 16, 3) := by decide +kernel
theorem d_R_mount_169 : decode b_R_mount 169 = .ok (.iload 6, 2) := by decide +kernel
theorem d_R_mount_171 : decode b_R_mount 171 = .ok (.iconst 2, 1) := by decide +kernel
theorem d_R_mount_172 : decode b_R_mount 172 = .ok (.iastore, 1) := by decide +kernel
theorem d_R_mount_173 : decode b_R_mount 173 = .ok (.aload_n 0, 1) := by decide +kernel
theorem d_R_mount_174 : decode b_R_mount 174 = .ok (.getfield 16, 3) := by decide +kernel
theorem d_R_mount_177 : decode b_R_mount 177 = .ok (.iload_n 3, 1) := by decide +kernel
theorem d_R_mount_178 : decode b_R_mount 178 = .ok (.iconst 1, 1) := by decide +kernel
theorem d_R_mount_179 : decode b_R_mount 179 = .ok (.iastore, 1) := by decide +kernel
theorem d_R_mount_180 : decode b_R_mount 180 = .ok (.aload_n 0, 1) := by decide +kernel
theorem d_R_mount_181 : decode b_R_mount 181 = .ok (.getfield 28, 3) := by decide +kernel
theorem d_R_mount_184 : decode b_R_mount 184 = .ok (.iload 5, 2) := by decide +kernel
theorem d_R_mount_186 : decode b_R_mount 186 = .ok (.iload_n 3, 1) := by decide +kernel
theorem d_R_mount_187 : decode b_R_mount 187 = .ok (.iconst 1, 1) := by decide +kernel
theorem d_R_mount_188 : decode b_R_mount 188 = .ok (.iadd, 1) := by decide +kernel
theorem d_R_mount_189 : decode b_R_mount 189 = .ok (.iastore, 1) := by decide +kernel
theorem d_R_mount_190 : decode b_R_mount 190 = .ok (.iload_n 1, 1) := by decide +kernel
theorem d_R_mount_191 : decode b_R_mount 191 = .ok (.ifCond .lt 16, 3) := by decide +kernel
theorem d_R_mount_194 : decode b_R_mount 194 = .ok (.aload_n 0, 1) := by decide +kernel
theorem d_R_mount_195 : decode b_R_mount 195 = .ok (.getfield 22, 3) := by decide +kernel
theorem d_R_mount_198 : decode b_R_mount 198 = .ok (.iload_n 3, 1) := by decide +kernel
theorem d_R_mount_199 : decode b_R_mount 199 = .ok (.iaload, 1) := by decide +kernel
theorem d_R_mount_200 : decode b_R_mount 200 = .ok (.iload_n 1, 1) := by decide +kernel
theorem d_R_mount_201 : decode b_R_mount 201 = .ok (.invokestatic 105, 3) := by decide +kernel
theorem d_R_mount_204 : decode b_R_mount 204 = .ok (.ifCond .eq 10, 3) := by decide +kernel
theorem d_R_mount_207 : decode b_R_mount 207 = .ok (.aload_n 0, 1) := by decide +kernel
theorem d_R_mount_208 : decode b_R_mount 208 = .ok (.getfield 22, 3) := by decide +kernel
theorem d_R_mount_211 : decode b_R_mount 211 = .ok (.iload_n 3, 1) := by decide +kernel
theorem d_R_mount_212 : decode b_R_mount 212 = .ok (.iaload, 1) := by decide +kernel
theorem d_R_mount_213 : decode b_R_mount 213 = .ok (.istore_n 1, 1) := by decide +kernel
theorem d_R_mount_214 : decode b_R_mount 214 = .ok (.iinc 3 1, 3) := by decide +kernel
theorem d_R_mount_217 : decode b_R_mount 217 = .ok (.goto (-185), 3) := by decide +kernel
theorem d_R_mount_220 : decode b_R_mount 220 = .ok (.aload_n 0, 1) := by decide +kernel
theorem d_R_mount_221 : decode b_R_mount 221 = .ok (.iload_n 1, 1) := by decide +kernel
theorem d_R_mount_222 : decode b_R_mount 222 = .ok (.ifCond .ge 7, 3) := by decide +kernel
theorem d_R_mount_225 : decode b_R_mount 225 = .ok (.iconst 0, 1) := by decide +kernel
theorem d_R_mount_226 : decode b_R_mount 226 = .ok (.goto 10, 3) := by decide +kernel
theorem d_R_mount_229 : decode b_R_mount 229 = .ok (.iload_n 1, 1) := by decide +kernel
theorem d_R_mount_230 : decode b_R_mount 230 = .ok (.iconst 1, 1) := by decide +kernel
theorem d_R_mount_231 : decode b_R_mount 231 = .ok (.iadd, 1) := by decide +kernel
theorem d_R_mount_232 : decode b_R_mount 232 = .ok (.sipush 4095, 3) := by decide +kernel
theorem d_R_mount_235 : decode b_R_mount 235 = .ok (.irem, 1) := by decide +kernel
theorem d_R_mount_236 : decode b_R_mount 236 = .ok (.putfield 76, 3) := by decide +kernel
theorem d_R_mount_239 : decode b_R_mount 239 = .ok (.iload_n 2, 1) := by decide +kernel
theorem d_R_mount_240 : decode b_R_mount 240 = .ok (.ireturn, 1) := by decide +kernel
theorem d_R_spoil_0 : decode b_R_spoil 0 = .ok (.aload_n 0, 1) := by decide +kernel
theorem d_R_spoil_1 : decode b_R_spoil 1 = .ok (.iload_n 1, 1) := by decide +kernel
theorem d_R_spoil_2 : decode b_R_spoil 2 = .ok (.iload_n 2, 1) := by decide +kernel
theorem d_R_spoil_3 : decode b_R_spoil 3 = .ok (.invokestatic 108, 3) := by decide +kernel
theorem d_R_spoil_6 : decode b_R_spoil 6 = .ok (.ifCond .eq 20, 3) := by decide +kernel
theorem d_R_spoil_9 : decode b_R_spoil 9 = .ok (.iload_n 3, 1) := by decide +kernel
theorem d_R_spoil_10 : decode b_R_spoil 10 = .ok (.iconst 5, 1) := by decide +kernel
theorem d_R_spoil_11 : decode b_R_spoil 11 = .ok (.invokestatic 46, 3) := by decide +kernel
theorem d_R_spoil_14 : decode b_R_spoil 14 = .ok (.ifCond .ne 12, 3) := by decide +kernel
theorem d_R_spoil_17 : decode b_R_spoil 17 = .ok (.iload 4, 2) := by decide +kernel
theorem d_R_spoil_19 : decode b_R_spoil 19 = .ok (.ifCond .lt 7, 3) := by decide +kernel
theorem d_R_spoil_22 : decode b_R_spoil 22 = .ok (.iconst 0, 1) := by decide +kernel
theorem d_R_spoil_23 : decode b_R_spoil 23 = .ok (.goto 4, 3) := by decide +kernel
theorem d_R_spoil_26 : decode b_R_spoil 26 = .ok (.iconst 1, 1) := by decide +kernel
theorem d_R_spoil_27 : decode b_R_spoil 27 = .ok (.putfield 33, 3) := by decide +kernel
theorem d_R_spoil_30 : decode b_R_spoil 30 = .ok (.iconst 5, 1) := by decide +kernel
theorem d_R_spoil_31 : decode b_R_spoil 31 = .ok (.iconst 4, 1) := by decide +kernel
theorem d_R_spoil_32 : decode b_R_spoil 32 = .ok (.iload_n 1, 1) := by decide +kernel
theorem d_R_spoil_33 : decode b_R_spoil 33 = .ok (.imul, 1) := by decide +kernel
theorem d_R_spoil_34 : decode b_R_spoil 34 = .ok (.iload_n 2, 1) := by decide +kernel
theorem d_R_spoil_35 : decode b_R_spoil 35 = .ok (.iadd, 1) := by decide +kernel
theorem d_R_spoil_36 : decode b_R_spoil 36 = .ok (.imul, 1) := by decide +kernel
theorem d_R_spoil_37 : decode b_R_spoil 37 = .ok (.iload_n 3, 1) := by decide +kernel
theorem d_R_spoil_38 : decode b_R_spoil 38 = .ok (.iadd, 1) := by decide +kernel
theorem d_R_spoil_39 : decode b_R_spoil 39 = .ok (.istore 5, 2) := by decide +kernel
theorem d_R_spoil_41 : decode b_R_spoil 41 = .ok (.aload_n 0, 1) := by decide +kernel
theorem d_R_spoil_42 : decode b_R_spoil 42 = .ok (.getfield 33, 3) := by decide +kernel
theorem d_R_spoil_45 : decode b_R_spoil 45 = .ok (.ifCond .ne 20, 3) := by decide +kernel
theorem d_R_spoil_48 : decode b_R_spoil 48 = .ok (.aload_n 0, 1) := by decide +kernel
theorem d_R_spoil_49 : decode b_R_spoil 49 = .ok (.getfield 13, 3) := by decide +kernel
theorem d_R_spoil_52 : decode b_R_spoil 52 = .ok (.iload 5, 2) := by decide +kernel
theorem d_R_spoil_54 : decode b_R_spoil 54 = .ok (.aload_n 0, 1) := by decide +kernel
theorem d_R_spoil_55 : decode b_R_spoil 55 = .ok (.getfield 13, 3) := by decide +kernel
theorem d_R_spoil_58 : decode b_R_spoil 58 = .ok (.iload 5, 2) := by decide +kernel
theorem d_R_spoil_60 : decode b_R_spoil 60 = .ok (.iaload, 1) := by decide +kernel
theorem d_R_spoil_61 : decode b_R_spoil 61 = .ok (.iload 4, 2) := by decide +kernel
theorem d_R_spoil_63 : decode b_R_spoil 63 = .ok (.ixor, 1) := by decide +kernel
theorem d_R_spoil_64 : decode b_R_spoil 64 = .ok (.iastore, 1) := by decide +kernel
theorem d_R_spoil_65 : decode b_R_spoil 65 = .ok (.return_, 1) := by decide +kernel
theorem d_R_flash_0 : decode b_R_flash 0 = .ok (.aload_n 0, 1) := by decide +kernel
theorem d_R_flash_1 : decode b_R_flash 1 = .ok (.iconst 0, 1) := by decide +kernel
theorem d_R_flash_2 : decode b_R_flash 2 = .ok (.putfield 33, 3) := by decide +kernel
theorem d_R_flash_5 : decode b_R_flash 5 = .ok (.iload_n 1, 1) := by decide +kernel
theorem d_R_flash_6 : decode b_R_flash 6 = .ok (.iload_n 2, 1) := by decide +kernel
theorem d_R_flash_7 : decode b_R_flash 7 = .ok (.invokestatic 108, 3) := by decide +kernel
theorem d_R_flash_10 : decode b_R_flash 10 = .ok (.ifCond .eq 28, 3) := by decide +kernel
theorem d_R_flash_13 : decode b_R_flash 13 = .ok (.iload_n 3, 1) := by decide +kernel
theorem d_R_flash_14 : decode b_R_flash 14 = .ok (.iconst 5, 1) := by decide +kernel
theorem d_R_flash_15 : decode b_R_flash 15 = .ok (.invokestatic 46, 3) := by decide +kernel
theorem d_R_flash_18 : decode b_R_flash 18 = .ok (.ifCond .ne 20, 3) := by decide +kernel
theorem d_R_flash_21 : decode b_R_flash 21 = .ok (.aload_n 0, 1) := by decide +kernel
theorem d_R_flash_22 : decode b_R_flash 22 = .ok (.getfield 13, 3) := by decide +kernel
theorem d_R_flash_25 : decode b_R_flash 25 = .ok (.iconst 5, 1) := by decide +kernel
theorem d_R_flash_26 : decode b_R_flash 26 = .ok (.iconst 4, 1) := by decide +kernel
theorem d_R_flash_27 : decode b_R_flash 27 = .ok (.iload_n 1, 1) := by decide +kernel
theorem d_R_flash_28 : decode b_R_flash 28 = .ok (.imul, 1) := by decide +kernel
theorem d_R_flash_29 : decode b_R_flash 29 = .ok (.iload_n 2, 1) := by decide +kernel
theorem d_R_flash_30 : decode b_R_flash 30 = .ok (.iadd, 1) := by decide +kernel
theorem d_R_flash_31 : decode b_R_flash 31 = .ok (.imul, 1) := by decide +kernel
theorem d_R_flash_32 : decode b_R_flash 32 = .ok (.iload_n 3, 1) := by decide +kernel
theorem d_R_flash_33 : decode b_R_flash 33 = .ok (.iadd, 1) := by decide +kernel
theorem d_R_flash_34 : decode b_R_flash 34 = .ok (.iaload, 1) := by decide +kernel
theorem d_R_flash_35 : decode b_R_flash 35 = .ok (.goto 8, 3) := by decide +kernel
theorem d_R_flash_38 : decode b_R_flash 38 = .ok (.aload_n 0, 1) := by decide +kernel
theorem d_R_flash_39 : decode b_R_flash 39 = .ok (.iconst 1, 1) := by decide +kernel
theorem d_R_flash_40 : decode b_R_flash 40 = .ok (.invokevirtual 50, 3) := by decide +kernel
theorem d_R_flash_43 : decode b_R_flash 43 = .ok (.ireturn, 1) := by decide +kernel
theorem d_R_place_0 : decode b_R_place 0 = .ok (.aload_n 0, 1) := by decide +kernel
theorem d_R_place_1 : decode b_R_place 1 = .ok (.iconst 0, 1) := by decide +kernel
theorem d_R_place_2 : decode b_R_place 2 = .ok (.putfield 33, 3) := by decide +kernel
theorem d_R_place_5 : decode b_R_place 5 = .ok (.iload_n 1, 1) := by decide +kernel
theorem d_R_place_6 : decode b_R_place 6 = .ok (.bipush 8, 2) := by decide +kernel
theorem d_R_place_8 : decode b_R_place 8 = .ok (.invokestatic 46, 3) := by decide +kernel
theorem d_R_place_11 : decode b_R_place 11 = .ok (.ifCond .eq 11, 3) := by decide +kernel
theorem d_R_place_14 : decode b_R_place 14 = .ok (.aload_n 0, 1) := by decide +kernel
theorem d_R_place_15 : decode b_R_place 15 = .ok (.iconst 1, 1) := by decide +kernel
theorem d_R_place_16 : decode b_R_place 16 = .ok (.invokevirtual 50, 3) := by decide +kernel
theorem d_R_place_19 : decode b_R_place 19 = .ok (.goto 11, 3) := by decide +kernel
theorem d_R_place_22 : decode b_R_place 22 = .ok (.aload_n 0, 1) := by decide +kernel
theorem d_R_place_23 : decode b_R_place 23 = .ok (.getfield 28, 3) := by decide +kernel
theorem d_R_place_26 : decode b_R_place 26 = .ok (.iload_n 1, 1) := by decide +kernel
theorem d_R_place_27 : decode b_R_place 27 = .ok (.iaload, 1) := by decide +kernel
theorem d_R_place_28 : decode b_R_place 28 = .ok (.iconst 1, 1) := by decide +kernel
theorem d_R_place_29 : decode b_R_place 29 = .ok (.isub, 1) := by decide +kernel
theorem d_R_place_30 : decode b_R_place 30 = .ok (.ireturn, 1) := by decide +kernel
theorem d_R_state_0 : decode b_R_state 0 = .ok (.aload_n 0, 1) := by decide +kernel
theorem d_R_state_1 : decode b_R_state 1 = .ok (.iconst 0, 1) := by decide +kernel
theorem d_R_state_2 : decode b_R_state 2 = .ok (.putfield 33, 3) := by decide +kernel
theorem d_R_state_5 : decode b_R_state 5 = .ok (.iload_n 1, 1) := by decide +kernel
theorem d_R_state_6 : decode b_R_state 6 = .ok (.iload_n 2, 1) := by decide +kernel
theorem d_R_state_7 : decode b_R_state 7 = .ok (.invokestatic 108, 3) := by decide +kernel
theorem d_R_state_10 : decode b_R_state 10 = .ok (.ifCond .eq 16, 3) := by decide +kernel
theorem d_R_state_13 : decode b_R_state 13 = .ok (.aload_n 0, 1) := by decide +kernel
theorem d_R_state_14 : decode b_R_state 14 = .ok (.getfield 16, 3) := by decide +kernel
theorem d_R_state_17 : decode b_R_state 17 = .ok (.iconst 4, 1) := by decide +kernel
theorem d_R_state_18 : decode b_R_state 18 = .ok (.iload_n 1, 1) := by decide +kernel
theorem d_R_state_19 : decode b_R_state 19 = .ok (.imul, 1) := by decide +kernel
theorem d_R_state_20 : decode b_R_state 20 = .ok (.iload_n 2, 1) := by decide +kernel
theorem d_R_state_21 : decode b_R_state 21 = .ok (.iadd, 1) := by decide +kernel
theorem d_R_state_22 : decode b_R_state 22 = .ok (.iaload, 1) := by decide +kernel
theorem d_R_state_23 : decode b_R_state 23 = .ok (.goto 8, 3) := by decide +kernel
theorem d_R_state_26 : decode b_R_state 26 = .ok (.aload_n 0, 1) := by decide +kernel
theorem d_R_state_27 : decode b_R_state 27 = .ok (.iconst 1, 1) := by decide +kernel
theorem d_R_state_28 : decode b_R_state 28 = .ok (.invokevirtual 50, 3) := by decide +kernel
theorem d_R_state_31 : decode b_R_state 31 = .ok (.ireturn, 1) := by decide +kernel
theorem d_R_wear_0 : decode b_R_wear 0 = .ok (.aload_n 0, 1) := by decide +kernel
theorem d_R_wear_1 : decode b_R_wear 1 = .ok (.iconst 0, 1) := by decide +kernel
theorem d_R_wear_2 : decode b_R_wear 2 = .ok (.putfield 33, 3) := by decide +kernel
theorem d_R_wear_5 : decode b_R_wear 5 = .ok (.iload_n 1, 1) := by decide +kernel
theorem d_R_wear_6 : decode b_R_wear 6 = .ok (.iconst 4, 1) := by decide +kernel
theorem d_R_wear_7 : decode b_R_wear 7 = .ok (.invokestatic 46, 3) := by decide +kernel
theorem d_R_wear_10 : decode b_R_wear 10 = .ok (.ifCond .eq 11, 3) := by decide +kernel
theorem d_R_wear_13 : decode b_R_wear 13 = .ok (.aload_n 0, 1) := by decide +kernel
theorem d_R_wear_14 : decode b_R_wear 14 = .ok (.iconst 1, 1) := by decide +kernel
theorem d_R_wear_15 : decode b_R_wear 15 = .ok (.invokevirtual 50, 3) := by decide +kernel
theorem d_R_wear_18 : decode b_R_wear 18 = .ok (.goto 9, 3) := by decide +kernel
theorem d_R_wear_21 : decode b_R_wear 21 = .ok (.aload_n 0, 1) := by decide +kernel
theorem d_R_wear_22 : decode b_R_wear 22 = .ok (.getfield 25, 3) := by decide +kernel
theorem d_R_wear_25 : decode b_R_wear 25 = .ok (.iload_n 1, 1) := by decide +kernel
theorem d_R_wear_26 : decode b_R_wear 26 = .ok (.iaload, 1) := by decide +kernel
theorem d_R_wear_27 : decode b_R_wear 27 = .ok (.ireturn, 1) := by decide +kernel
theorem d_R_serial_0 : decode b_R_serial 0 = .ok (.aload_n 0, 1) := by decide +kernel
theorem d_R_serial_1 : decode b_R_serial 1 = .ok (.iconst 0, 1) := by decide +kernel
theorem d_R_serial_2 : decode b_R_serial 2 = .ok (.putfield 33, 3) := by decide +kernel
theorem d_R_serial_5 : decode b_R_serial 5 = .ok (.aload_n 0, 1) := by decide +kernel
theorem d_R_serial_6 : decode b_R_serial 6 = .ok (.getfield 76, 3) := by decide +kernel
theorem d_R_serial_9 : decode b_R_serial 9 = .ok (.ireturn, 1) := by decide +kernel
end
section
/-! Small rows for the laid walks: a mirror's branches, its guards, its calls; what a contract asks at its start. -/
theorem tx_t {α : Type} {c : Prop} [Decidable c] {a b d : α} (h : c) (e : (if c then a else b) = d) : a = d := by
  rw [if_pos h] at e
  exact e
theorem tx_f {α : Type} {c : Prop} [Decidable c] {a b d : α} (h : ¬ c) (e : (if c then a else b) = d) : b = d := by
  rw [if_neg h] at e
  exact e
theorem tx_g {α : Type} {c : Prop} [Decidable c] {a : Option α} {d : α} (e : (if c then none else a) = some d) : ¬ c ∧ a = some d := by
  by_cases h : c
  · rw [if_pos h] at e
    cases e
  · rw [if_neg h] at e
    exact ⟨h, e⟩
theorem tx_b {α β : Type} {o : Option α} {f : α → Option β} {b : β} (h : o.bind f = some b) : ∃ a, o = some a ∧ f a = some b := by
  cases o with
  | none => cases h
  | some a => exact ⟨a, rfl, h⟩
theorem tx_z {z : Int32} (h : z = 0 ∨ z = 1) : narrow .boolean (.int z) = .int z := by
  rcases h with rfl | rfl <;> decide
theorem tx_or {o a : Option Nat} {k : Nat} (h : o.elim a some = some k) : o = some k ∨ a = some k := by
  cases o with
  | none => exact Or.inr h
  | some j => exact Or.inl h
/-- a read only method's start: the world, the tables -/
def tx_PR (av : List Value) (D : va_G) (tys : List (ClassId × FieldType)) (ws : va_W) : Array Value → State → Prop := va_Pc av (fun U => va_P D vwCl ws U.heap ∧ va_K D vwCl tys U)
/-- Flash.erase calls a private method of its nest mate -/
abbrev tx_nest : Cond := .methodLinkNest "FlashStore$Flash" 32 y_F_placeOf "FlashStore"
/-- a writing method's start -/
def tx_PW (av : List Value) (D : va_G) (tys : List (ClassId × FieldType)) (ws : va_W) (sz : Nat) : Array Value → State → Prop := va_Pc av (fun U => U.heap.size = sz ∧ va_P D vwCl ws U.heap ∧ va_K D vwCl tys U ∧ va_D (fun _ => True) ws ∧ va_Nw tx_nest U)
theorem tx_bl0 {av : List Value} : FrameBlind (va_Pc av (fun _ => True)) := fun _ _ _ _ q => q
theorem tx_pre0 {s : State} {H : Heap} {av : List Value} : ∀ U : State, U.heap = H → s.WarmedH U.vm → va_Pc av (fun _ => True) av.toArray U := fun _ _ _ => ⟨rfl, trivial⟩
theorem tx_blR {av : List Value} {D : va_G} {tys : List (ClassId × FieldType)} {ws : va_W} : FrameBlind (tx_PR av D tys ws) := fun a U g mk q => ⟨q.1, q.2.1, va_K.moved (u := U) (U := U.calling g mk a) (Vm.Alike.refl U.vm) q.2.2⟩
theorem tx_preR {s : State} {H : Heap} {av : List Value} {D : va_G} {tys : List (ClassId × FieldType)} {ws : va_W} (hP : va_P D vwCl ws H) (hK : va_K D vwCl tys s) : ∀ U : State, U.heap = H → s.WarmedH U.vm → tx_PR av D tys ws av.toArray U :=
  fun U hU hW => ⟨rfl, by rw [hU]; exact hP, va_K.moved hW.alike hK⟩
theorem tx_blW {av : List Value} {D : va_G} {tys : List (ClassId × FieldType)} {ws : va_W} {sz : Nat} : FrameBlind (tx_PW av D tys ws sz) := fun a U g mk q => ⟨q.1, q.2.1, q.2.2.1, va_K.moved (u := U) (U := U.calling g mk a) (Vm.Alike.refl U.vm) q.2.2.2.1, q.2.2.2.2.1, va_Nw.same rfl (rfl : U.vm = (U.calling g mk a).vm) q.2.2.2.2.2⟩
theorem tx_preW {s : State} {H : Heap} {av : List Value} {D : va_G} {tys : List (ClassId × FieldType)} {ws : va_W} {A : Nat → Prop} (hP : va_P D vwCl ws H) (hD : va_D A ws) (hK : va_K D vwCl tys s) (hN : va_Nw tx_nest s) : ∀ U : State, U.heap = H → s.WarmedH U.vm → tx_PW av D tys ws H.size av.toArray U :=
  fun U hU hW => ⟨rfl, by rw [hU], by rw [hU]; exact hP, va_K.moved hW.alike hK, hD.weaken (fun _ _ _ _ => trivial), va_Nw.warmM hW hN⟩
section TXB
variable {p : Program} {l : Launch} {e : Env} {R : Room} {s : State} {m : MethodId} {args : Array Value} {below : List Frame} {meth : Method} {c : Code} {H : Heap} {locs : List Loc} {cells slots : Nat} {Q : State → Prop} {pc : Nat} {ls : Array Slot} {rest st0 : List Value}
theorem tx_csNi {post : Int32 → Prop} {a : Array Value} (hr : va_Run p l e R s m args below meth c H locs cells slots 0 0 (F0 m pc ls st0) rest (vp_Si post a) (fun _ => False))
    (kk : ∀ r : Int32, post r → W p l e R s m args below meth c H locs cells slots Q (F0 m (pc + 3) ls (.int r :: rest))) : W p l e R s m args below meth c H locs cells slots Q (F0 m pc ls st0) := by
  intro T hT X
  obtain ⟨v, st₀, t, T', L, h0, X', hL, e1, e2, ⟨r, hv, hp, hh⟩, st⟩ := hr T hT X
  cases hv
  obtain ⟨t2, a1, b1⟩ := kk r hp T' (by rw [e1, hh, h0]) (Stand.forget X' (fun q h => (hL q h).elim))
  exact ⟨t2, st t2 a1, b1⟩
end TXB
/-- what a filled array holds -/
def kf_fill (n : Nat) (f : Nat → Int32) (v : Int32) : Nat → Int32 := fun j => if j < n then v else f j
end
section
def f_U_bitCount (a1 : Int32) : Option (Int32) := some ((((((((a1 - (((a1.toUInt32 >>> ((1 : Int32).toUInt32 &&& Int32.toUInt32 31)).toInt32) &&& (1431655765 : Int32))) &&& (858993459 : Int32)) + ((((a1 - (((a1.toUInt32 >>> ((1 : Int32).toUInt32 &&& Int32.toUInt32 31)).toInt32) &&& (1431655765 : Int32))).toUInt32 >>> ((2 : Int32).toUInt32 &&& Int32.toUInt32 31)).toInt32) &&& (858993459 : Int32))) + (((((a1 - (((a1.toUInt32 >>> ((1 : Int32).toUInt32 &&& Int32.toUInt32 31)).toInt32) &&& (1431655765 : Int32))) &&& (858993459 : Int32)) + ((((a1 - (((a1.toUInt32 >>> ((1 : Int32).toUInt32 &&& Int32.toUInt32 31)).toInt32) &&& (1431655765 : Int32))).toUInt32 >>> ((2 : Int32).toUInt32 &&& Int32.toUInt32 31)).toInt32) &&& (858993459 : Int32))).toUInt32 >>> ((4 : Int32).toUInt32 &&& Int32.toUInt32 31)).toInt32)) &&& (252645135 : Int32)) + (((((((a1 - (((a1.toUInt32 >>> ((1 : Int32).toUInt32 &&& Int32.toUInt32 31)).toInt32) &&& (1431655765 : Int32))) &&& (858993459 : Int32)) + ((((a1 - (((a1.toUInt32 >>> ((1 : Int32).toUInt32 &&& Int32.toUInt32 31)).toInt32) &&& (1431655765 : Int32))).toUInt32 >>> ((2 : Int32).toUInt32 &&& Int32.toUInt32 31)).toInt32) &&& (858993459 : Int32))) + (((((a1 - (((a1.toUInt32 >>> ((1 : Int32).toUInt32 &&& Int32.toUInt32 31)).toInt32) &&& (1431655765 : Int32))) &&& (858993459 : Int32)) + ((((a1 - (((a1.toUInt32 >>> ((1 : Int32).toUInt32 &&& Int32.toUInt32 31)).toInt32) &&& (1431655765 : Int32))).toUInt32 >>> ((2 : Int32).toUInt32 &&& Int32.toUInt32 31)).toInt32) &&& (858993459 : Int32))).toUInt32 >>> ((4 : Int32).toUInt32 &&& Int32.toUInt32 31)).toInt32)) &&& (252645135 : Int32)).toUInt32 >>> ((8 : Int32).toUInt32 &&& Int32.toUInt32 31)).toInt32)) + ((((((((a1 - (((a1.toUInt32 >>> ((1 : Int32).toUInt32 &&& Int32.toUInt32 31)).toInt32) &&& (1431655765 : Int32))) &&& (858993459 : Int32)) + ((((a1 - (((a1.toUInt32 >>> ((1 : Int32).toUInt32 &&& Int32.toUInt32 31)).toInt32) &&& (1431655765 : Int32))).toUInt32 >>> ((2 : Int32).toUInt32 &&& Int32.toUInt32 31)).toInt32) &&& (858993459 : Int32))) + (((((a1 - (((a1.toUInt32 >>> ((1 : Int32).toUInt32 &&& Int32.toUInt32 31)).toInt32) &&& (1431655765 : Int32))) &&& (858993459 : Int32)) + ((((a1 - (((a1.toUInt32 >>> ((1 : Int32).toUInt32 &&& Int32.toUInt32 31)).toInt32) &&& (1431655765 : Int32))).toUInt32 >>> ((2 : Int32).toUInt32 &&& Int32.toUInt32 31)).toInt32) &&& (858993459 : Int32))).toUInt32 >>> ((4 : Int32).toUInt32 &&& Int32.toUInt32 31)).toInt32)) &&& (252645135 : Int32)) + (((((((a1 - (((a1.toUInt32 >>> ((1 : Int32).toUInt32 &&& Int32.toUInt32 31)).toInt32) &&& (1431655765 : Int32))) &&& (858993459 : Int32)) + ((((a1 - (((a1.toUInt32 >>> ((1 : Int32).toUInt32 &&& Int32.toUInt32 31)).toInt32) &&& (1431655765 : Int32))).toUInt32 >>> ((2 : Int32).toUInt32 &&& Int32.toUInt32 31)).toInt32) &&& (858993459 : Int32))) + (((((a1 - (((a1.toUInt32 >>> ((1 : Int32).toUInt32 &&& Int32.toUInt32 31)).toInt32) &&& (1431655765 : Int32))) &&& (858993459 : Int32)) + ((((a1 - (((a1.toUInt32 >>> ((1 : Int32).toUInt32 &&& Int32.toUInt32 31)).toInt32) &&& (1431655765 : Int32))).toUInt32 >>> ((2 : Int32).toUInt32 &&& Int32.toUInt32 31)).toInt32) &&& (858993459 : Int32))).toUInt32 >>> ((4 : Int32).toUInt32 &&& Int32.toUInt32 31)).toInt32)) &&& (252645135 : Int32)).toUInt32 >>> ((8 : Int32).toUInt32 &&& Int32.toUInt32 31)).toInt32)).toUInt32 >>> ((16 : Int32).toUInt32 &&& Int32.toUInt32 31)).toInt32)) &&& (63 : Int32))
def f_U_floorMod_J18 (v2 : Int32) : Option (Int32) := some v2
def f_U_floorMod (a1 : Int32) (a2 : Int32) : Option (Int32) := if a2 = 0 then none else if 0 ≤ (a1 ^^^ a2) then (f_U_floorMod_J18 (a1 - a1 / a2 * a2)) else (if (a1 - a1 / a2 * a2) = 0 then (f_U_floorMod_J18 (a1 - a1 / a2 * a2)) else (some ((a1 - a1 / a2 * a2) + a2)))
def f_C_remainder_J29 (rc : Int32 → Int32 → Option (Int32)) (v1 : Int32) (v2 : Int32) : Option (Int32) := rc v1 (v2 + (-1 : Int32))
def f_C_remainder_H : Nat → Int32 → Int32 → Option (Int32)
  | 0, _, _ => none
  | n + 1, v1, v2 => if v2 < (15 : Int32) then (some v1) else (if (v1 &&& ((1 : Int32) <<< (v2 &&& 31))) = 0 then (f_C_remainder_J29 (f_C_remainder_H n) v1 v2) else (f_C_remainder_J29 (f_C_remainder_H n) (v1 ^^^ ((36783 : Int32) <<< ((v2 - (15 : Int32)) &&& 31))) v2))
def f_C_remainder (a1 : Int32) : Option (Int32) := f_C_remainder_H 100 a1 (30 : Int32)
def f_C_codewordOf (a1 : Int32) : Option (Int32) := (f_C_remainder (a1 <<< ((15 : Int32) &&& 31))).bind fun r7 => some ((a1 <<< ((15 : Int32) &&& 31)) ||| r7)
def f_C_dataOf (a1 : Int32) : Option (Int32) := some ((a1.toUInt32 >>> ((15 : Int32).toUInt32 &&& Int32.toUInt32 31)).toInt32)
def f_C_timesX_J19 (z0 : Int32) : Option (Int32) := some z0
def f_C_timesX (a1 : Int32) : Option (Int32) := if ((a1 <<< ((1 : Int32) &&& 31)) &&& (32768 : Int32)) = 0 then (f_C_timesX_J19 (a1 <<< ((1 : Int32) &&& 31))) else (f_C_timesX_J19 ((a1 <<< ((1 : Int32) &&& 31)) ^^^ (36783 : Int32)))
def f_C_turned (a1 : Int32) (a2 : Int32) : Option (Int32) := some (((a1 <<< (a2 &&& 31)) ||| ((a1.toUInt32 >>> (((31 : Int32) - a2).toUInt32 &&& Int32.toUInt32 31)).toInt32)) &&& (2147483647 : Int32))
def f_C_mendOneInData_H : Nat → Int32 → Int32 → Int32 → Int32 → Option (Int32)
  | 0, _, _, _, _ => none
  | n + 1, v0, v1, v2, v3 => if (31 : Int32) ≤ v3 then (some (-1 : Int32)) else ((f_U_bitCount (v1 ^^^ v2)).bind fun r37 => if (3 : Int32) ≤ r37 then ((f_C_timesX v2).bind fun r54 => f_C_mendOneInData_H n v0 v1 r54 (v3 + (1 : Int32))) else (some ((v0 ^^^ (v1 ^^^ v2)) ^^^ ((1 : Int32) <<< (v3 &&& 31)))))
def f_C_mendOneInData (a1 : Int32) : Option (Int32) := (f_C_remainder a1).bind fun r1 => (f_U_bitCount r1).bind fun r6 => if (3 : Int32) < r6 then (f_C_mendOneInData_H 100 a1 r1 (4015 : Int32) (15 : Int32)) else (some (a1 ^^^ r1))
def f_C_mend_H : Nat → Int32 → Int32 → Option (Int32)
  | 0, _, _ => none
  | n + 1, v0, v1 => if (31 : Int32) ≤ v1 then (some (-1 : Int32)) else ((f_C_turned v0 v1).bind fun r10 => (f_C_mendOneInData r10).bind fun r13 => if r13 = (-1 : Int32) then (f_C_mend_H n v0 (v1 + (5 : Int32))) else ((f_C_turned r13 ((31 : Int32) - v1)).bind fun r27 => some r27))
def f_C_mend (a1 : Int32) : Option (Int32) := f_C_mend_H 100 a1 (0 : Int32)
def f_F_placeOf (a1 : Int32) (a2 : Int32) : Option (Int32) := some ((a1 * (4 : Int32)) + a2)
def f_M_wordAt (wd : Nat → Int32) (a1 : Int32) (a2 : Int32) : Option (Int32) := if ((a1 * (5 : Int32)) + a2) < 0 ∨ 80 ≤ ((a1 * (5 : Int32)) + a2).toNatClampNeg then none else some (wd ((a1 * (5 : Int32)) + a2).toNatClampNeg)
def f_M_turnOver (wd : Nat → Int32) (a1 : Int32) (a2 : Int32) (a3 : Int32) : Option ((Nat → Int32)) := if ((a1 * (5 : Int32)) + a2) < 0 ∨ 80 ≤ ((a1 * (5 : Int32)) + a2).toNatClampNeg then none else some (upd wd ((a1 * (5 : Int32)) + a2).toNatClampNeg ((wd ((a1 * (5 : Int32)) + a2).toNatClampNeg) ^^^ a3))
def f_M_program_H : Nat → (Nat → Int32) → Int64 → Int32 → Int32 → Int32 → Option ((Nat → Int32))
  | 0, _, _, _, _, _ => none
  | n + 1, wd, v2, v4, v5, v6 => if (4 : Int32) ≤ v6 then (if (v5 + (4 : Int32)) < 0 ∨ 80 ≤ (v5 + (4 : Int32)).toNatClampNeg then none else (f_C_codewordOf v4).bind fun r63 => some (upd wd (v5 + (4 : Int32)).toNatClampNeg ((wd (v5 + (4 : Int32)).toNatClampNeg) &&& r63))) else (if (v5 + v6) < 0 ∨ 80 ≤ (v5 + v6).toNatClampNeg then none else (f_C_codewordOf ((((v2.toUInt64 >>> ((v6 * (16 : Int32)).toInt64.toUInt64 &&& Int64.toUInt64 63)).toInt64).toInt32) &&& (65535 : Int32))).bind fun r40 => f_M_program_H n (upd wd (v5 + v6).toNatClampNeg ((wd (v5 + v6).toNatClampNeg) &&& r40)) v2 v4 v5 (v6 + (1 : Int32)))
def f_M_program (wd : Nat → Int32) (a1 : Int32) (a2 : Int64) (a3 : Int32) : Option ((Nat → Int32)) := f_M_program_H 100 wd a2 a3 (a1 * (5 : Int32)) (0 : Int32)
def f_M_erase_H : Nat → (Nat → Int32) → (Nat → Int32) → Int32 → Int32 → Int32 → Option ((Nat → Int32) × (Nat → Int32))
  | 0, _, _, _, _, _ => none
  | n + 1, wd, er, v1, v2, v3 => if (20 : Int32) ≤ v3 then (if v1 < 0 ∨ 4 ≤ v1.toNatClampNeg then none else some (wd, (upd er v1.toNatClampNeg ((er v1.toNatClampNeg) + (1 : Int32))))) else (if (v2 + v3) < 0 ∨ 80 ≤ (v2 + v3).toNatClampNeg then none else f_M_erase_H n (upd wd (v2 + v3).toNatClampNeg (2147483647 : Int32)) er v1 v2 (v3 + (1 : Int32)))
def f_M_erase (wd : Nat → Int32) (er : Nat → Int32) (a1 : Int32) : Option ((Nat → Int32) × (Nat → Int32)) := (f_F_placeOf a1 (0 : Int32)).bind fun r2 => f_M_erase_H 100 wd er a1 (r2 * (5 : Int32)) (0 : Int32)
def f_M_erasuresOf (er : Nat → Int32) (a1 : Int32) : Option (Int32) := if a1 < 0 ∨ 4 ≤ a1.toNatClampNeg then none else some (er a1.toNatClampNeg)
def f_M_tagAt_J23 (wd : Nat → Int32) (z0 : Int32) : Option (Int32) := some z0
def f_M_tagAt (wd : Nat → Int32) (a1 : Int32) : Option (Int32) := (f_M_wordAt wd a1 (4 : Int32)).bind fun r3 => (f_C_mend r3).bind fun r6 => if r6 = (-1 : Int32) then (f_M_tagAt_J23 wd (-1 : Int32)) else ((f_C_dataOf r6).bind fun r20 => f_M_tagAt_J23 wd r20)
def f_M_isReadable_H : Nat → (Nat → Int32) → Int32 → Int32 → Option (Int32)
  | 0, _, _, _ => none
  | n + 1, wd, v1, v2 => if (4 : Int32) ≤ v2 then (if ¬ ((1 : Int32) = 0 ∨ (1 : Int32) = 1) then none else some (1 : Int32)) else ((f_M_wordAt wd v1 v2).bind fun r10 => (f_C_mend r10).bind fun r13 => if r13 = (-1 : Int32) then (if ¬ ((0 : Int32) = 0 ∨ (0 : Int32) = 1) then none else some (0 : Int32)) else (f_M_isReadable_H n wd v1 (v2 + (1 : Int32))))
def f_M_isReadable (wd : Nat → Int32) (a1 : Int32) : Option (Int32) := f_M_isReadable_H 100 wd a1 (0 : Int32)
def f_M_contentAt_H : Nat → (Nat → Int32) → Int32 → Int64 → Int32 → Option (Int64)
  | 0, _, _, _, _ => none
  | n + 1, wd, v1, v2, v4 => if (4 : Int32) ≤ v4 then (some v2) else ((f_M_wordAt wd v1 v4).bind fun r15 => (f_C_mend r15).bind fun r18 => (f_C_dataOf r18).bind fun r21 => f_M_contentAt_H n wd v1 (v2 ||| (r21.toInt64 <<< ((v4 * (16 : Int32)).toInt64 &&& 63))) (v4 + (1 : Int32)))
def f_M_contentAt (wd : Nat → Int32) (a1 : Int32) : Option (Int64) := f_M_contentAt_H 100 wd a1 (0 : Int64) (0 : Int32)
def f_F_blockOf (a1 : Int32) : Option (Int32) := some (a1 / (4 : Int32))
def f_F_isSpoilt_J19 (z0 : Int32) : Option (Int32) := if ¬ (z0 = 0 ∨ z0 = 1) then none else some z0
def f_F_isSpoilt_J14 : Option (Int32) := f_F_isSpoilt_J19 (1 : Int32)
def f_F_isSpoilt (a1 : Int32) : Option (Int32) := if a1 = (-1 : Int32) then (f_F_isSpoilt_J14 ) else (if ((a1.toUInt32 >>> ((12 : Int32).toUInt32 &&& Int32.toUInt32 31)).toInt32) < (8 : Int32) then (f_F_isSpoilt_J19 (0 : Int32)) else (f_F_isSpoilt_J14 ))
def f_F_isNewer_J27 (z0 : Int32) : Option (Int32) := if ¬ (z0 = 0 ∨ z0 = 1) then none else some z0
def f_F_isNewer_J26 : Option (Int32) := f_F_isNewer_J27 (0 : Int32)
def f_F_isNewer (a1 : Int32) (a2 : Int32) : Option (Int32) := (f_U_floorMod (a1 - a2) (4095 : Int32)).bind fun r6 => if r6 < (1 : Int32) then (f_F_isNewer_J26 ) else (if (2000 : Int32) < r6 then (f_F_isNewer_J26 ) else (f_F_isNewer_J27 (1 : Int32)))
def f_F_serialBehind (a1 : Int32) : Option (Int32) := some ((a1 + (1 : Int32)) - (a1 + (1 : Int32)) / (4095 : Int32) * (4095 : Int32))
def f_F_requireLogicalPage_J10 : Option (Unit) := none
def f_F_requireLogicalPage (a1 : Int32) : Option (Unit) := if a1 < 0 then (f_F_requireLogicalPage_J10 ) else (if a1 < (8 : Int32) then (some ()) else (f_F_requireLogicalPage_J10 ))
def f_F_requireBlock_J9 : Option (Unit) := none
def f_F_requireBlock (a1 : Int32) : Option (Unit) := if a1 < 0 then (f_F_requireBlock_J9 ) else (if a1 < (4 : Int32) then (some ()) else (f_F_requireBlock_J9 ))
def f_F_requirePageOfBlock_J9 : Option (Unit) := none
def f_F_requirePageOfBlock (a1 : Int32) : Option (Unit) := if a1 < 0 then (f_F_requirePageOfBlock_J9 ) else (if a1 < (4 : Int32) then (some ()) else (f_F_requirePageOfBlock_J9 ))
def f_F_requireWord_J17 : Option (Unit) := none
def f_F_requireWord (a1 : Int32) (a2 : Int32) (a3 : Int32) : Option (Unit) := (f_F_requireBlock a1).bind fun _ => (f_F_requirePageOfBlock a2).bind fun _ => if a3 < 0 then (f_F_requireWord_J17 ) else (if a3 < (5 : Int32) then (some ()) else (f_F_requireWord_J17 ))
def f_F_hold (st : Nat → Int32) (pl : Nat → Int32) (a1 : Int32) (a2 : Int32) : Option ((Nat → Int32) × (Nat → Int32)) := if a2 < 0 ∨ 16 ≤ a2.toNatClampNeg then none else if a1 < 0 ∨ 8 ≤ a1.toNatClampNeg then none else some ((upd st a2.toNatClampNeg (1 : Int32)), (upd pl a1.toNatClampNeg a2))
def f_F_forget_J29 (st : Nat → Int32) (pl : Nat → Int32) : Option ((Nat → Int32) × (Nat → Int32)) := some (st, pl)
def f_F_forget (st : Nat → Int32) (pl : Nat → Int32) (a1 : Int32) : Option ((Nat → Int32) × (Nat → Int32)) := if a1 < 0 ∨ 8 ≤ a1.toNatClampNeg then none else if (pl a1.toNatClampNeg) = (-1 : Int32) then (f_F_forget_J29 st pl) else (if (pl a1.toNatClampNeg) < 0 ∨ 16 ≤ (pl a1.toNatClampNeg).toNatClampNeg then none else f_F_forget_J29 (upd st (pl a1.toNatClampNeg).toNatClampNeg (2 : Int32)) (upd pl a1.toNatClampNeg (-1 : Int32)))
def f_F_take_J31 (st : Nat → Int32) (pl : Nat → Int32) (tk : Nat → Int32) (v1 : Int32) (v2 : Int32) (v3 : Int32) : Option ((Nat → Int32) × (Nat → Int32) × (Nat → Int32)) := (f_F_forget st pl v2).bind fun (st33, pl33) => (f_F_hold st33 pl33 v2 v1).bind fun (st39, pl39) => if v2 < 0 ∨ 8 ≤ v2.toNatClampNeg then none else some (st39, pl39, (upd tk v2.toNatClampNeg v3))
def f_F_take (st : Nat → Int32) (pl : Nat → Int32) (tk : Nat → Int32) (a1 : Int32) (a2 : Int32) (a3 : Int32) : Option ((Nat → Int32) × (Nat → Int32) × (Nat → Int32)) := if a2 < 0 ∨ 8 ≤ a2.toNatClampNeg then none else if (pl a2.toNatClampNeg) = (-1 : Int32) then (f_F_take_J31 st pl tk a1 a2 a3) else ((f_F_isNewer a3 (tk a2.toNatClampNeg)).bind fun r17 => if r17 = 0 then (if a1 < 0 ∨ 16 ≤ a1.toNatClampNeg then none else some ((upd st a1.toNatClampNeg (2 : Int32)), pl, tk)) else (f_F_take_J31 st pl tk a1 a2 a3))
def f_F_countHeld_J26 (rc : (Nat → Int32) → Int32 → Int32 → Option (Int32)) (pl : Nat → Int32) (v2 : Int32) (z0 : Int32) (z1 : Int32) : Option (Int32) := rc pl (z1 + z0) (v2 + (1 : Int32))
def f_F_countHeld_H : Nat → (Nat → Int32) → Int32 → Int32 → Option (Int32)
  | 0, _, _, _ => none
  | n + 1, pl, v1, v2 => if (8 : Int32) ≤ v2 then (some v1) else (if v2 < 0 ∨ 8 ≤ v2.toNatClampNeg then none else if (pl v2.toNatClampNeg) = (-1 : Int32) then (f_F_countHeld_J26 (f_F_countHeld_H n) pl v2 (0 : Int32) v1) else (f_F_countHeld_J26 (f_F_countHeld_H n) pl v2 (1 : Int32) v1))
def f_F_countHeld (pl : Nat → Int32) : Option (Int32) := f_F_countHeld_H 100 pl (0 : Int32) (0 : Int32)
def f_F_logicalPageAt_H : Nat → (Nat → Int32) → Int32 → Int32 → Option (Int32)
  | 0, _, _, _ => none
  | n + 1, pl, v1, v2 => if (8 : Int32) ≤ v2 then (some (-1 : Int32)) else (if v2 < 0 ∨ 8 ≤ v2.toNatClampNeg then none else if (pl v2.toNatClampNeg) = v1 then (some v2) else (f_F_logicalPageAt_H n pl v1 (v2 + (1 : Int32))))
def f_F_logicalPageAt (pl : Nat → Int32) (a1 : Int32) : Option (Int32) := f_F_logicalPageAt_H 100 pl a1 (0 : Int32)
def f_F_countInBlock_J32 (rc : (Nat → Int32) → Int32 → Int32 → Int32 → Int32 → Option (Int32)) (st : Nat → Int32) (v1 : Int32) (v2 : Int32) (v4 : Int32) (z0 : Int32) (z1 : Int32) : Option (Int32) := rc st v1 v2 (z1 + z0) (v4 + (1 : Int32))
def f_F_countInBlock_H : Nat → (Nat → Int32) → Int32 → Int32 → Int32 → Int32 → Option (Int32)
  | 0, _, _, _, _, _ => none
  | n + 1, st, v1, v2, v3, v4 => if (4 : Int32) ≤ v4 then (some v3) else ((f_F_placeOf v1 v4).bind fun r19 => if r19 < 0 ∨ 16 ≤ r19.toNatClampNeg then none else if (st r19.toNatClampNeg) = v2 then (f_F_countInBlock_J32 (f_F_countInBlock_H n) st v1 v2 v4 (1 : Int32) v3) else (f_F_countInBlock_J32 (f_F_countInBlock_H n) st v1 v2 v4 (0 : Int32) v3))
def f_F_countInBlock (st : Nat → Int32) (a1 : Int32) (a2 : Int32) : Option (Int32) := f_F_countInBlock_H 100 st a1 a2 (0 : Int32) (0 : Int32)
def f_F_isWholeFree_J15 (st : Nat → Int32) (z0 : Int32) : Option (Int32) := if ¬ (z0 = 0 ∨ z0 = 1) then none else some z0
def f_F_isWholeFree (st : Nat → Int32) (a1 : Int32) : Option (Int32) := (f_F_countInBlock st a1 (0 : Int32)).bind fun r3 => if r3 = (4 : Int32) then (f_F_isWholeFree_J15 st (1 : Int32)) else (f_F_isWholeFree_J15 st (0 : Int32))
def f_F_freePlace_J52 (rc : (Nat → Int32) → Int32 → Int32 → Int32 → Option (Int32)) (st : Nat → Int32) (v1 : Int32) (v2 : Int32) (v3 : Int32) : Option (Int32) := rc st v1 v2 (v3 + (1 : Int32))
def f_F_freePlace_H : Nat → (Nat → Int32) → Int32 → Int32 → Int32 → Option (Int32)
  | 0, _, _, _, _ => none
  | n + 1, st, v1, v2, v3 => if (16 : Int32) ≤ v3 then (some v2) else ((f_F_blockOf v3).bind fun r11 => if v3 < 0 ∨ 16 ≤ v3.toNatClampNeg then none else if (st v3.toNatClampNeg) = 0 then (if r11 = v1 then (f_F_freePlace_J52 (f_F_freePlace_H n) st v1 v2 v3) else ((f_F_isWholeFree st r11).bind fun r37 => if r37 = 0 then (some v3) else (if v2 = (-1 : Int32) then (f_F_freePlace_J52 (f_F_freePlace_H n) st v1 v3 v3) else (f_F_freePlace_J52 (f_F_freePlace_H n) st v1 v2 v3)))) else (f_F_freePlace_J52 (f_F_freePlace_H n) st v1 v2 v3))
def f_F_freePlace (st : Nat → Int32) (a1 : Int32) : Option (Int32) := f_F_freePlace_H 100 st a1 (-1 : Int32) (0 : Int32)
def f_F_leavesBlockFree_J38 (rc : (Nat → Int32) → Int32 → Int32 → Option (Int32)) (st : Nat → Int32) (v1 : Int32) (v2 : Int32) : Option (Int32) := rc st v1 (v2 + (1 : Int32))
def f_F_leavesBlockFree_H : Nat → (Nat → Int32) → Int32 → Int32 → Option (Int32)
  | 0, _, _, _ => none
  | n + 1, st, v1, v2 => if (4 : Int32) ≤ v2 then (if ¬ ((0 : Int32) = 0 ∨ (0 : Int32) = 1) then none else some (0 : Int32)) else ((f_F_blockOf v1).bind fun r22 => if v2 = r22 then (f_F_leavesBlockFree_J38 (f_F_leavesBlockFree_H n) st v1 v2) else ((f_F_isWholeFree st v2).bind fun r30 => if r30 = 0 then (f_F_leavesBlockFree_J38 (f_F_leavesBlockFree_H n) st v1 v2) else (if ¬ ((1 : Int32) = 0 ∨ (1 : Int32) = 1) then none else some (1 : Int32))))
def f_F_leavesBlockFree (st : Nat → Int32) : Option (Int32) := (f_F_freePlace st (-1 : Int32)).bind fun r2 => if r2 = (-1 : Int32) then (if ¬ ((0 : Int32) = 0 ∨ (0 : Int32) = 1) then none else some (0 : Int32)) else (f_F_leavesBlockFree_H 100 st r2 (0 : Int32))
def f_F_put (st : Nat → Int32) (pl : Nat → Int32) (wd : Nat → Int32) (nx : Int32) (a1 : Int32) (a2 : Int64) (a3 : Int32) : Option ((Nat → Int32) × (Nat → Int32) × (Nat → Int32) × Int32) := (f_F_freePlace st a3).bind fun r3 => if r3 = (-1 : Int32) then (some (st, pl, wd, nx)) else ((f_M_program wd r3 a2 ((a1 <<< ((12 : Int32) &&& 31)) ||| nx)).bind fun wd31 => (f_F_serialBehind nx).bind fun r39 => (f_F_forget st pl a1).bind fun (st47, pl47) => (f_F_hold st47 pl47 a1 r3).bind fun (st54, pl54) => some (st54, pl54, wd31, r39))
def f_F_countFreeOutside_J25 (rc : (Nat → Int32) → Int32 → Int32 → Int32 → Option (Int32)) (st : Nat → Int32) (v1 : Int32) (v3 : Int32) (z0 : Int32) (z1 : Int32) : Option (Int32) := rc st v1 (z1 + z0) (v3 + (1 : Int32))
def f_F_countFreeOutside_H : Nat → (Nat → Int32) → Int32 → Int32 → Int32 → Option (Int32)
  | 0, _, _, _, _ => none
  | n + 1, st, v1, v2, v3 => if (4 : Int32) ≤ v3 then (some v2) else (if v3 = v1 then (f_F_countFreeOutside_J25 (f_F_countFreeOutside_H n) st v1 v3 (0 : Int32) v2) else ((f_F_countInBlock st v3 (0 : Int32)).bind fun r18 => f_F_countFreeOutside_J25 (f_F_countFreeOutside_H n) st v1 v3 r18 v2))
def f_F_countFreeOutside (st : Nat → Int32) (a1 : Int32) : Option (Int32) := f_F_countFreeOutside_H 100 st a1 (0 : Int32) (0 : Int32)
def f_F_canBeCleaned_J34 (st : Nat → Int32) (z0 : Int32) : Option (Int32) := if ¬ (z0 = 0 ∨ z0 = 1) then none else some z0
def f_F_canBeCleaned_J33 (st : Nat → Int32) : Option (Int32) := f_F_canBeCleaned_J34 st (0 : Int32)
def f_F_canBeCleaned (st : Nat → Int32) (a1 : Int32) : Option (Int32) := (f_F_countInBlock st a1 (1 : Int32)).bind fun r3 => (f_F_isWholeFree st a1).bind fun r9 => if r9 = 0 then (if (4 : Int32) ≤ r3 then (f_F_canBeCleaned_J33 st) else ((f_F_countFreeOutside st a1).bind fun r23 => if r23 < r3 then (f_F_canBeCleaned_J33 st) else (f_F_canBeCleaned_J34 st (1 : Int32)))) else (f_F_canBeCleaned_J33 st)
def f_F_isBetterToClean_J59 (st : Nat → Int32) (er : Nat → Int32) (z0 : Int32) : Option (Int32) := if ¬ (z0 = 0 ∨ z0 = 1) then none else some z0
def f_F_isBetterToClean (st : Nat → Int32) (er : Nat → Int32) (a1 : Int32) (a2 : Int32) : Option (Int32) := (f_F_countInBlock st a1 (1 : Int32)).bind fun r3 => (f_F_countInBlock st a2 (1 : Int32)).bind fun r10 => if r3 = r10 then ((f_M_erasuresOf er a1).bind fun r40 => (f_M_erasuresOf er a2).bind fun r48 => if r48 ≤ r40 then (f_F_isBetterToClean_J59 st er (0 : Int32)) else (f_F_isBetterToClean_J59 st er (1 : Int32))) else (if r10 ≤ r3 then (f_F_isBetterToClean_J59 st er (0 : Int32)) else (f_F_isBetterToClean_J59 st er (1 : Int32)))
def f_F_blockToClean_J33 (rc : (Nat → Int32) → (Nat → Int32) → Int32 → Int32 → Option (Int32)) (st : Nat → Int32) (er : Nat → Int32) (v1 : Int32) (v2 : Int32) : Option (Int32) := rc st er v1 (v2 + (1 : Int32))
def f_F_blockToClean_J31 (rc : (Nat → Int32) → (Nat → Int32) → Int32 → Int32 → Option (Int32)) (st : Nat → Int32) (er : Nat → Int32) (v2 : Int32) : Option (Int32) := f_F_blockToClean_J33 rc st er v2 v2
def f_F_blockToClean_H : Nat → (Nat → Int32) → (Nat → Int32) → Int32 → Int32 → Option (Int32)
  | 0, _, _, _, _ => none
  | n + 1, st, er, v1, v2 => if (4 : Int32) ≤ v2 then (some v1) else ((f_F_canBeCleaned st v2).bind fun r11 => if r11 = 0 then (f_F_blockToClean_J33 (f_F_blockToClean_H n) st er v1 v2) else (if v1 = (-1 : Int32) then (f_F_blockToClean_J31 (f_F_blockToClean_H n) st er v2) else ((f_F_isBetterToClean st er v2 v1).bind fun r25 => if r25 = 0 then (f_F_blockToClean_J33 (f_F_blockToClean_H n) st er v1 v2) else (f_F_blockToClean_J31 (f_F_blockToClean_H n) st er v2))))
def f_F_blockToClean (st : Nat → Int32) (er : Nat → Int32) : Option (Int32) := f_F_blockToClean_H 100 st er (-1 : Int32) (0 : Int32)
def f_F_moveAway_J48 (st : Nat → Int32) (pl : Nat → Int32) (wd : Nat → Int32) (nx : Int32) : Option ((Nat → Int32) × (Nat → Int32) × (Nat → Int32) × Int32) := some (st, pl, wd, nx)
def f_F_moveAway (st : Nat → Int32) (pl : Nat → Int32) (wd : Nat → Int32) (nx : Int32) (a1 : Int32) : Option ((Nat → Int32) × (Nat → Int32) × (Nat → Int32) × Int32) := (f_F_logicalPageAt pl a1).bind fun r2 => if r2 = (-1 : Int32) then (some (st, pl, wd, nx)) else ((f_M_isReadable wd a1).bind fun r17 => if r17 = 0 then ((f_F_forget st pl r2).bind fun (st45, pl45) => f_F_moveAway_J48 st45 pl45 wd nx) else ((f_M_contentAt wd a1).bind fun r30 => (f_F_blockOf a1).bind fun r34 => (f_F_put st pl wd nx r2 r30 r34).bind fun (st37, pl37, wd37, nx37) => f_F_moveAway_J48 st37 pl37 wd37 nx37))
def f_F_cleanBlock_H : Nat → (Nat → Int32) → (Nat → Int32) → (Nat → Int32) → (Nat → Int32) → Int32 → Nat → Int32 → Int32 → Option ((Nat → Int32) × (Nat → Int32) × (Nat → Int32) × (Nat → Int32) × Int32)
  | 0, _, _, _, _, _, _, _, _ => none
  | n + 1, st, pl, wd, er, nx, 0, v1, v2 => if (4 : Int32) ≤ v2 then ((f_M_erase wd er v1).bind fun (wd27, er27) => f_F_cleanBlock_H n st pl wd27 er27 nx 1 v1 (0 : Int32)) else ((f_F_placeOf v1 v2).bind fun r10 => (f_F_moveAway st pl wd nx r10).bind fun (st13, pl13, wd13, nx13) => f_F_cleanBlock_H n st13 pl13 wd13 er nx13 0 v1 (v2 + (1 : Int32)))
  | n + 1, st, pl, wd, er, nx, _, v1, v2 => if (4 : Int32) ≤ v2 then (some (st, pl, wd, er, nx)) else ((f_F_placeOf v1 v2).bind fun r43 => if r43 < 0 ∨ 16 ≤ r43.toNatClampNeg then none else f_F_cleanBlock_H n (upd st r43.toNatClampNeg (0 : Int32)) pl wd er nx 1 v1 (v2 + (1 : Int32)))
def f_F_cleanBlock (st : Nat → Int32) (pl : Nat → Int32) (wd : Nat → Int32) (er : Nat → Int32) (nx : Int32) (a1 : Int32) : Option ((Nat → Int32) × (Nat → Int32) × (Nat → Int32) × (Nat → Int32) × Int32) := f_F_cleanBlock_H 100 st pl wd er nx 0 a1 (0 : Int32)
def f_F_encode_J10 : Option (Int32) := none
def f_F_encode (a1 : Int32) : Option (Int32) := if a1 < 0 then (f_F_encode_J10 ) else (if a1 ≤ (65535 : Int32) then ((f_C_codewordOf a1).bind fun r21 => some r21) else (f_F_encode_J10 ))
def f_F_decode (md : Int32) (a1 : Int32) : Option (Int32 × Int32) := if 0 ≤ a1 then ((f_C_mend a1).bind fun r15 => if r15 = (-1 : Int32) then (none) else ((f_U_bitCount (a1 ^^^ r15)).bind fun r38 => (f_C_dataOf r15).bind fun r45 => some (r45, r38))) else (none)
def f_F_mended (md : Int32) : Option (Int32) := some md
def f_F_write_J55 (rc : (Nat → Int32) → (Nat → Int32) → (Nat → Int32) → (Nat → Int32) → Int32 → Int32 → Int64 → Int32 → Option ((Nat → Int32) × (Nat → Int32) × (Nat → Int32) × (Nat → Int32) × Int32)) (st : Nat → Int32) (pl : Nat → Int32) (wd : Nat → Int32) (er : Nat → Int32) (nx : Int32) (v1 : Int32) (v2 : Int64) : Option ((Nat → Int32) × (Nat → Int32) × (Nat → Int32) × (Nat → Int32) × Int32) := (f_F_put st pl wd nx v1 v2 (-1 : Int32)).bind fun (st59, pl59, wd59, nx59) => some (st59, pl59, wd59, er, nx59)
def f_F_write_H : Nat → (Nat → Int32) → (Nat → Int32) → (Nat → Int32) → (Nat → Int32) → Int32 → Int32 → Int64 → Int32 → Option ((Nat → Int32) × (Nat → Int32) × (Nat → Int32) × (Nat → Int32) × Int32)
  | 0, _, _, _, _, _, _, _, _ => none
  | n + 1, st, pl, wd, er, nx, v1, v2, v4 => if (16 : Int32) ≤ v4 then (f_F_write_J55 (f_F_write_H n) st pl wd er nx v1 v2) else ((f_F_leavesBlockFree st).bind fun r15 => if r15 = 0 then ((f_F_blockToClean st er).bind fun r22 => if r22 = (-1 : Int32) then (none) else ((f_F_cleanBlock st pl wd er nx r22).bind fun (st46, pl46, wd46, er46, nx46) => f_F_write_H n st46 pl46 wd46 er46 nx46 v1 v2 (v4 + (1 : Int32)))) else (f_F_write_J55 (f_F_write_H n) st pl wd er nx v1 v2))
def f_F_write (st : Nat → Int32) (pl : Nat → Int32) (wd : Nat → Int32) (er : Nat → Int32) (nx : Int32) (a1 : Int32) (a2 : Int64) : Option ((Nat → Int32) × (Nat → Int32) × (Nat → Int32) × (Nat → Int32) × Int32) := (f_F_requireLogicalPage a1).bind fun _ => f_F_write_H 100 st pl wd er nx a1 a2 (0 : Int32)
def f_F_read (pl : Nat → Int32) (wd : Nat → Int32) (a1 : Int32) : Option (Int64) := (f_F_requireLogicalPage a1).bind fun _ => if a1 < 0 ∨ 8 ≤ a1.toNatClampNeg then none else if (pl a1.toNatClampNeg) = (-1 : Int32) then (none) else ((f_M_isReadable wd (pl a1.toNatClampNeg)).bind fun r31 => if r31 = 0 then (none) else ((f_M_contentAt wd (pl a1.toNatClampNeg)).bind fun r52 => some r52))
def f_F_trim_J19 (st : Nat → Int32) (pl : Nat → Int32) (v1 : Int32) (z0 : Int32) : Option (Int32 × (Nat → Int32) × (Nat → Int32)) := (f_F_forget st pl v1).bind fun (st22, pl22) => if ¬ (z0 = 0 ∨ z0 = 1) then none else some (z0, st22, pl22)
def f_F_trim (st : Nat → Int32) (pl : Nat → Int32) (a1 : Int32) : Option (Int32 × (Nat → Int32) × (Nat → Int32)) := (f_F_requireLogicalPage a1).bind fun _ => if a1 < 0 ∨ 8 ≤ a1.toNatClampNeg then none else if (pl a1.toNatClampNeg) = (-1 : Int32) then (f_F_trim_J19 st pl a1 (0 : Int32)) else (f_F_trim_J19 st pl a1 (1 : Int32))
def f_F_spoil (wd : Nat → Int32) (a1 : Int32) (a2 : Int32) (a3 : Int32) (a4 : Int32) : Option ((Nat → Int32)) := (f_F_requireWord a1 a2 a3).bind fun _ => if 0 ≤ a4 then ((f_F_placeOf a1 a2).bind fun r27 => (f_M_turnOver wd r27 a3 a4).bind fun wd33 => some wd33) else (none)
def f_F_flash (wd : Nat → Int32) (a1 : Int32) (a2 : Int32) (a3 : Int32) : Option (Int32) := (f_F_requireWord a1 a2 a3).bind fun _ => (f_F_placeOf a1 a2).bind fun r12 => (f_M_wordAt wd r12 a3).bind fun r16 => some r16
def f_F_mount_J119 (rc : (Nat → Int32) → (Nat → Int32) → (Nat → Int32) → (Nat → Int32) → Int32 → Int32 → Int32 → Option (Int32 × (Nat → Int32) × (Nat → Int32) × (Nat → Int32) × Int32)) (st : Nat → Int32) (pl : Nat → Int32) (tk : Nat → Int32) (wd : Nat → Int32) (nx : Int32) (z0 : Int32) : Option (Int32 × (Nat → Int32) × (Nat → Int32) × (Nat → Int32) × Int32) := (f_F_countHeld pl).bind fun r123 => some (r123, st, pl, tk, z0)
def f_F_mount_J99 (rc : (Nat → Int32) → (Nat → Int32) → (Nat → Int32) → (Nat → Int32) → Int32 → Int32 → Int32 → Option (Int32 × (Nat → Int32) × (Nat → Int32) × (Nat → Int32) × Int32)) (st : Nat → Int32) (pl : Nat → Int32) (tk : Nat → Int32) (wd : Nat → Int32) (nx : Int32) (v1 : Int32) (v2 : Int32) : Option (Int32 × (Nat → Int32) × (Nat → Int32) × (Nat → Int32) × Int32) := rc st pl tk wd nx v1 (v2 + (1 : Int32))
def f_F_mount_J98 (rc : (Nat → Int32) → (Nat → Int32) → (Nat → Int32) → (Nat → Int32) → Int32 → Int32 → Int32 → Option (Int32 × (Nat → Int32) × (Nat → Int32) × (Nat → Int32) × Int32)) (st : Nat → Int32) (pl : Nat → Int32) (tk : Nat → Int32) (wd : Nat → Int32) (nx : Int32) (v2 : Int32) (z0 : Int32) : Option (Int32 × (Nat → Int32) × (Nat → Int32) × (Nat → Int32) × Int32) := f_F_mount_J99 rc st pl tk wd nx z0 v2
def f_F_mount_J92 (rc : (Nat → Int32) → (Nat → Int32) → (Nat → Int32) → (Nat → Int32) → Int32 → Int32 → Int32 → Option (Int32 × (Nat → Int32) × (Nat → Int32) × (Nat → Int32) × Int32)) (st : Nat → Int32) (pl : Nat → Int32) (tk : Nat → Int32) (wd : Nat → Int32) (nx : Int32) (v2 : Int32) (v4 : Int32) : Option (Int32 × (Nat → Int32) × (Nat → Int32) × (Nat → Int32) × Int32) := f_F_mount_J98 rc st pl tk wd nx v2 v4
def f_F_mount_H : Nat → (Nat → Int32) → (Nat → Int32) → (Nat → Int32) → (Nat → Int32) → Int32 → Int32 → Int32 → Option (Int32 × (Nat → Int32) × (Nat → Int32) × (Nat → Int32) × Int32)
  | 0, _, _, _, _, _, _, _ => none
  | n + 1, st, pl, tk, wd, nx, v1, v2 => if (16 : Int32) ≤ v2 then (if v1 = (-1 : Int32) then (f_F_mount_J119 (f_F_mount_H n) st pl tk wd nx (0 : Int32)) else ((f_F_serialBehind v1).bind fun r116 => f_F_mount_J119 (f_F_mount_H n) st pl tk wd nx r116)) else ((f_M_tagAt wd v2).bind fun r23 => if r23 = (65535 : Int32) then (if v2 < 0 ∨ 16 ≤ v2.toNatClampNeg then none else f_F_mount_J99 (f_F_mount_H n) (upd st v2.toNatClampNeg (0 : Int32)) pl tk wd nx v1 v2) else ((f_F_isSpoilt r23).bind fun r44 => if r44 = 0 then ((f_F_take st pl tk v2 ((r23.toUInt32 >>> ((12 : Int32).toUInt32 &&& Int32.toUInt32 31)).toInt32) (r23 &&& (4095 : Int32))).bind fun (st75, pl75, tk75) => if v1 = (-1 : Int32) then (f_F_mount_J92 (f_F_mount_H n) st75 pl75 tk75 wd nx v2 (r23 &&& (4095 : Int32))) else ((f_F_isNewer (r23 &&& (4095 : Int32)) v1).bind fun r86 => if r86 = 0 then (f_F_mount_J98 (f_F_mount_H n) st75 pl75 tk75 wd nx v2 v1) else (f_F_mount_J92 (f_F_mount_H n) st75 pl75 tk75 wd nx v2 (r23 &&& (4095 : Int32))))) else (if v2 < 0 ∨ 16 ≤ v2.toNatClampNeg then none else f_F_mount_J99 (f_F_mount_H n) (upd st v2.toNatClampNeg (2 : Int32)) pl tk wd nx v1 v2)))
def f_F_mount (st : Nat → Int32) (pl : Nat → Int32) (tk : Nat → Int32) (wd : Nat → Int32) (nx : Int32) : Option (Int32 × (Nat → Int32) × (Nat → Int32) × (Nat → Int32) × Int32) := f_F_mount_H 100 st (kf_fill 8 pl (-1 : Int32)) tk wd nx (-1 : Int32) (0 : Int32)
def f_F_clean (st : Nat → Int32) (pl : Nat → Int32) (wd : Nat → Int32) (er : Nat → Int32) (nx : Int32) : Option (Int32 × (Nat → Int32) × (Nat → Int32) × (Nat → Int32) × (Nat → Int32) × Int32) := (f_F_blockToClean st er).bind fun r1 => if r1 = (-1 : Int32) then (none) else ((f_F_cleanBlock st pl wd er nx r1).bind fun (st22, pl22, wd22, er22, nx22) => some (r1, st22, pl22, wd22, er22, nx22))
def f_F_place (pl : Nat → Int32) (a1 : Int32) : Option (Int32) := (f_F_requireLogicalPage a1).bind fun _ => if a1 < 0 ∨ 8 ≤ a1.toNatClampNeg then none else some (pl a1.toNatClampNeg)
def f_F_state (st : Nat → Int32) (a1 : Int32) (a2 : Int32) : Option (Int32) := (f_F_requireBlock a1).bind fun _ => (f_F_requirePageOfBlock a2).bind fun _ => (f_F_placeOf a1 a2).bind fun r14 => if r14 < 0 ∨ 16 ≤ r14.toNatClampNeg then none else some (st r14.toNatClampNeg)
def f_F_wear (er : Nat → Int32) (a1 : Int32) : Option (Int32) := (f_F_requireBlock a1).bind fun _ => (f_M_erasuresOf er a1).bind fun r9 => some r9
def f_F_serial (nx : Int32) : Option (Int32) := some nx
def f_R_out_J14 (z0 : Int32) : Option (Int32) := if ¬ (z0 = 0 ∨ z0 = 1) then none else some z0
def f_R_out_J9 : Option (Int32) := f_R_out_J14 (1 : Int32)
def f_R_out (a1 : Int32) (a2 : Int32) : Option (Int32) := if a1 < 0 then (f_R_out_J9 ) else (if a1 < a2 then (f_R_out_J14 (0 : Int32)) else (f_R_out_J9 ))
def f_R_newer_J48 (z0 : Int32) : Option (Int32) := if ¬ (z0 = 0 ∨ z0 = 1) then none else some z0
def f_R_newer_J47 : Option (Int32) := f_R_newer_J48 (0 : Int32)
def f_R_newer_J31 (z0 : Int32) : Option (Int32) := if z0 ≤ 0 then (f_R_newer_J47 ) else (if (2000 : Int32) < z0 then (f_R_newer_J47 ) else (f_R_newer_J48 (1 : Int32)))
def f_R_newer_J18 (z0 : Int32) : Option (Int32) := if z0 = (4095 : Int32) then (f_R_newer_J31 (0 : Int32)) else (f_R_newer_J31 z0)
def f_R_newer (a1 : Int32) (a2 : Int32) : Option (Int32) := if a1 < a2 then (f_R_newer_J18 ((a1 - a2) + (4095 : Int32))) else (f_R_newer_J18 (a1 - a2))
def f_R_isPage_J21 (z0 : Int32) : Option (Int32) := if ¬ (z0 = 0 ∨ z0 = 1) then none else some z0
def f_R_isPage_J20 : Option (Int32) := f_R_isPage_J21 (0 : Int32)
def f_R_isPage (a1 : Int32) (a2 : Int32) : Option (Int32) := (f_R_out a1 (4 : Int32)).bind fun r2 => if r2 = 0 then ((f_R_out a2 (4 : Int32)).bind fun r10 => if r10 = 0 then (f_R_isPage_J21 (1 : Int32)) else (f_R_isPage_J20 )) else (f_R_isPage_J20 )
def f_R_thrown (th : Int32) : Option (Int32) := some th
def f_R_fail (th : Int32) (a1 : Int32) : Option (Int32 × Int32) := some ((0 : Int32), a1)
def f_R_left_J28 (rc : (Nat → Int32) → Int32 → Int32 → Int32 → Option (Int32)) (rm : Nat → Int32) (v1 : Int32) (v2 : Int32) (v3 : Int32) : Option (Int32) := rc rm v1 v2 (v3 + (1 : Int32))
def f_R_left_H : Nat → (Nat → Int32) → Int32 → Int32 → Int32 → Option (Int32)
  | 0, _, _, _, _ => none
  | n + 1, rm, v1, v2, v3 => if (31 : Int32) ≤ v3 then (some v2) else (if ((v1 >>> (v3 &&& 31)) &&& (1 : Int32)) = (1 : Int32) then (if v3 < 0 ∨ 31 ≤ v3.toNatClampNeg then none else f_R_left_J28 (f_R_left_H n) rm v1 (v2 ^^^ (rm v3.toNatClampNeg)) v3) else (f_R_left_J28 (f_R_left_H n) rm v1 v2 v3))
def f_R_left (rm : Nat → Int32) (a1 : Int32) : Option (Int32) := f_R_left_H 100 rm a1 (0 : Int32) (0 : Int32)
def f_R_codeword (rm : Nat → Int32) (a1 : Int32) : Option (Int32) := (f_R_left rm ((32768 : Int32) * a1)).bind fun r9 => some (((32768 : Int32) * a1) + r9)
def f_R_dataOf_H : Nat → (Nat → Int32) → Int32 → Nat → Int32 → Int32 → Int32 → Int32 → Int32 → Int32 → Option (Int32 × Int32)
  | 0, _, _, _, _, _, _, _, _, _ => none
  | n + 1, rm, wr, 0, v1, v2, v3, v4, v5, v6 => if (31 : Int32) ≤ v3 then (f_R_dataOf_H n rm wr 1 v1 v2 (0 : Int32) 0 0 0) else (if v3 < 0 ∨ 31 ≤ v3.toNatClampNeg then none else if (rm v3.toNatClampNeg) = v2 then (some (((v1 ^^^ ((1 : Int32) <<< (v3 &&& 31))) >>> ((15 : Int32) &&& 31)), (1 : Int32))) else (f_R_dataOf_H n rm wr 0 v1 v2 (v3 + (1 : Int32)) 0 0 0))
  | n + 1, rm, wr, 1, v1, v2, v3, v4, v5, v6 => if (31 : Int32) ≤ v3 then (f_R_dataOf_H n rm wr 3 v1 v2 (0 : Int32) 0 0 0) else (f_R_dataOf_H n rm wr 2 v1 v2 v3 (0 : Int32) 0 0)
  | n + 1, rm, wr, 2, v1, v2, v3, v4, v5, v6 => if v3 ≤ v4 then (f_R_dataOf_H n rm wr 1 v1 v2 (v3 + (1 : Int32)) 0 0 0) else (if v3 < 0 ∨ 31 ≤ v3.toNatClampNeg then none else if v4 < 0 ∨ 31 ≤ v4.toNatClampNeg then none else if ((rm v3.toNatClampNeg) ^^^ (rm v4.toNatClampNeg)) = v2 then (some ((((v1 ^^^ ((1 : Int32) <<< (v3 &&& 31))) ^^^ ((1 : Int32) <<< (v4 &&& 31))) >>> ((15 : Int32) &&& 31)), (2 : Int32))) else (f_R_dataOf_H n rm wr 2 v1 v2 v3 (v4 + (1 : Int32)) 0 0))
  | n + 1, rm, wr, 3, v1, v2, v3, v4, v5, v6 => if (31 : Int32) ≤ v3 then (some ((-1 : Int32), wr)) else (f_R_dataOf_H n rm wr 4 v1 v2 v3 (0 : Int32) 0 0)
  | n + 1, rm, wr, 4, v1, v2, v3, v4, v5, v6 => if v3 ≤ v4 then (f_R_dataOf_H n rm wr 3 v1 v2 (v3 + (1 : Int32)) 0 0 0) else (if v3 < 0 ∨ 31 ≤ v3.toNatClampNeg then none else if v4 < 0 ∨ 31 ≤ v4.toNatClampNeg then none else f_R_dataOf_H n rm wr 5 v1 v2 v3 v4 (((rm v3.toNatClampNeg) ^^^ (rm v4.toNatClampNeg)) ^^^ v2) (0 : Int32))
  | n + 1, rm, wr, _, v1, v2, v3, v4, v5, v6 => if v4 ≤ v6 then (f_R_dataOf_H n rm wr 4 v1 v2 v3 (v4 + (1 : Int32)) 0 0) else (if v6 < 0 ∨ 31 ≤ v6.toNatClampNeg then none else if (rm v6.toNatClampNeg) = v5 then (some (((((v1 ^^^ ((1 : Int32) <<< (v3 &&& 31))) ^^^ ((1 : Int32) <<< (v4 &&& 31))) ^^^ ((1 : Int32) <<< (v6 &&& 31))) >>> ((15 : Int32) &&& 31)), (3 : Int32))) else (f_R_dataOf_H n rm wr 5 v1 v2 v3 v4 v5 (v6 + (1 : Int32))))
def f_R_dataOf (rm : Nat → Int32) (wr : Int32) (a1 : Int32) : Option (Int32 × Int32) := (f_R_left rm a1).bind fun r2 => if r2 = 0 then (some ((a1 >>> ((15 : Int32) &&& 31)), (0 : Int32))) else (f_R_dataOf_H 6000 rm (0 : Int32) 0 a1 r2 (0 : Int32) 0 0 0)
def f_R_encode_J27 (rm : Nat → Int32) (th : Int32) (z0 : Int32) : Option (Int32 × Int32) := some (z0, th)
def f_R_encode (rm : Nat → Int32) (th : Int32) (a1 : Int32) : Option (Int32 × Int32) := (f_R_out a1 (65536 : Int32)).bind fun r8 => if r8 = 0 then ((f_R_codeword rm a1).bind fun r24 => f_R_encode_J27 rm (0 : Int32) r24) else ((f_R_fail (0 : Int32) (1 : Int32)).bind fun (r16, th16) => f_R_encode_J27 rm th16 r16)
def f_R_decode (rm : Nat → Int32) (th : Int32) (md : Int32) (wr : Int32) (a1 : Int32) : Option (Int32 × Int32 × Int32 × Int32) := if 0 ≤ a1 then ((f_R_dataOf rm wr a1).bind fun (r17, wr17) => if 0 ≤ r17 then (some (r17, (0 : Int32), wr17, wr17)) else ((f_R_fail (0 : Int32) (2 : Int32)).bind fun (r27, th27) => some (r27, th27, md, wr17))) else ((f_R_fail (0 : Int32) (1 : Int32)).bind fun (r11, th11) => some (r11, th11, md, wr))
def f_R_mended (th : Int32) (md : Int32) : Option (Int32 × Int32) := some (md, (0 : Int32))
def f_R_readable_J35 (rc : (Nat → Int32) → (Nat → Int32) → Int32 → Int32 → Int32 → Int32 → Option (Int32 × Int32)) (rm : Nat → Int32) (fl : Nat → Int32) (wr : Int32) (v1 : Int32) (v3 : Int32) (z0 : Int32) : Option (Int32 × Int32) := rc rm fl wr v1 z0 (v3 + (1 : Int32))
def f_R_readable_J34 (rc : (Nat → Int32) → (Nat → Int32) → Int32 → Int32 → Int32 → Int32 → Option (Int32 × Int32)) (rm : Nat → Int32) (fl : Nat → Int32) (wr : Int32) (v1 : Int32) (v3 : Int32) : Option (Int32 × Int32) := f_R_readable_J35 rc rm fl wr v1 v3 (0 : Int32)
def f_R_readable_H : Nat → (Nat → Int32) → (Nat → Int32) → Int32 → Int32 → Int32 → Int32 → Option (Int32 × Int32)
  | 0, _, _, _, _, _, _ => none
  | n + 1, rm, fl, wr, v1, v2, v3 => if (4 : Int32) ≤ v3 then (if ¬ (v2 = 0 ∨ v2 = 1) then none else some (v2, wr)) else (if v2 = 0 then (f_R_readable_J34 (f_R_readable_H n) rm fl wr v1 v3) else (if (((5 : Int32) * v1) + v3) < 0 ∨ 80 ≤ (((5 : Int32) * v1) + v3).toNatClampNeg then none else (f_R_dataOf rm wr (fl (((5 : Int32) * v1) + v3).toNatClampNeg)).bind fun (r24, wr24) => if r24 < 0 then (f_R_readable_J34 (f_R_readable_H n) rm fl wr24 v1 v3) else (f_R_readable_J35 (f_R_readable_H n) rm fl wr24 v1 v3 (1 : Int32))))
def f_R_readable (rm : Nat → Int32) (fl : Nat → Int32) (wr : Int32) (a1 : Int32) : Option (Int32 × Int32) := f_R_readable_H 100 rm fl wr a1 (1 : Int32) (0 : Int32)
def f_R_contentOf_H : Nat → (Nat → Int32) → (Nat → Int32) → Int32 → Int32 → Int64 → Int32 → Option (Int64 × Int32)
  | 0, _, _, _, _, _, _ => none
  | n + 1, rm, fl, wr, v1, v2, v4 => if v4 < 0 then (some (v2, wr)) else (if (((5 : Int32) * v1) + v4) < 0 ∨ 80 ≤ (((5 : Int32) * v1) + v4).toNatClampNeg then none else (f_R_dataOf rm wr (fl (((5 : Int32) * v1) + v4).toNatClampNeg)).bind fun (r26, wr26) => f_R_contentOf_H n rm fl wr26 v1 ((v2 <<< ((16 : Int32).toInt64 &&& 63)) ||| r26.toInt64) (v4 + (-1 : Int32)))
def f_R_contentOf (rm : Nat → Int32) (fl : Nat → Int32) (wr : Int32) (a1 : Int32) : Option (Int64 × Int32) := f_R_contentOf_H 100 rm fl wr a1 (0 : Int64) (3 : Int32)
def f_R_program (rm : Nat → Int32) (fl : Nat → Int32) (a1 : Int32) (a2 : Int32) (a3 : Int32) : Option ((Nat → Int32)) := if (((5 : Int32) * a1) + a2) < 0 ∨ 80 ≤ (((5 : Int32) * a1) + a2).toNatClampNeg then none else (f_R_codeword rm a3).bind fun r21 => some (upd fl (((5 : Int32) * a1) + a2).toNatClampNeg ((fl (((5 : Int32) * a1) + a2).toNatClampNeg) &&& r21))
def f_R_count_J33 (rc : (Nat → Int32) → Int32 → Int32 → Int32 → Int32 → Option (Int32)) (us : Nat → Int32) (v1 : Int32) (v2 : Int32) (v4 : Int32) (z0 : Int32) : Option (Int32) := rc us v1 v2 z0 (v4 + (1 : Int32))
def f_R_count_H : Nat → (Nat → Int32) → Int32 → Int32 → Int32 → Int32 → Option (Int32)
  | 0, _, _, _, _, _ => none
  | n + 1, us, v1, v2, v3, v4 => if (4 : Int32) ≤ v4 then (some v3) else (if (((4 : Int32) * v1) + v4) < 0 ∨ 16 ≤ (((4 : Int32) * v1) + v4).toNatClampNeg then none else if (us (((4 : Int32) * v1) + v4).toNatClampNeg) = v2 then (f_R_count_J33 (f_R_count_H n) us v1 v2 v4 (v3 + (1 : Int32))) else (f_R_count_J33 (f_R_count_H n) us v1 v2 v4 v3))
def f_R_count (us : Nat → Int32) (a1 : Int32) (a2 : Int32) : Option (Int32) := f_R_count_H 100 us a1 a2 (0 : Int32) (0 : Int32)
def f_R_empty_J15 (us : Nat → Int32) (z0 : Int32) : Option (Int32) := if ¬ (z0 = 0 ∨ z0 = 1) then none else some z0
def f_R_empty (us : Nat → Int32) (a1 : Int32) : Option (Int32) := (f_R_count us a1 (0 : Int32)).bind fun r3 => if r3 = (4 : Int32) then (f_R_empty_J15 us (1 : Int32)) else (f_R_empty_J15 us (0 : Int32))
def f_R_placeBut_J56 (rc : (Nat → Int32) → Nat → Int32 → Int32 → Int32 → Option (Int32)) (us : Nat → Int32) (v1 : Int32) (v2 : Int32) (v3 : Int32) : Option (Int32) := rc us 1 v1 v2 (v3 + (1 : Int32))
def f_R_placeBut_J51 (rc : (Nat → Int32) → Nat → Int32 → Int32 → Int32 → Option (Int32)) (us : Nat → Int32) (v1 : Int32) (v2 : Int32) (v3 : Int32) (z0 : Int32) (z1 : Int32) : Option (Int32) := if z1 = z0 then (some v3) else (f_R_placeBut_J56 rc us v1 v2 v3)
def f_R_placeBut_H : Nat → (Nat → Int32) → Nat → Int32 → Int32 → Int32 → Option (Int32)
  | 0, _, _, _, _, _ => none
  | n + 1, us, 0, v1, v2, v3 => if (2 : Int32) ≤ v2 then (some (-1 : Int32)) else (f_R_placeBut_H n us 1 v1 v2 (0 : Int32))
  | n + 1, us, _, v1, v2, v3 => if (16 : Int32) ≤ v3 then (f_R_placeBut_H n us 0 v1 (v2 + (1 : Int32)) 0) else (if (v3 / (4 : Int32)) = v1 then (f_R_placeBut_J56 (f_R_placeBut_H n) us v1 v2 v3) else (if v3 < 0 ∨ 16 ≤ v3.toNatClampNeg then none else if (us v3.toNatClampNeg) = 0 then ((f_R_empty us (v3 / (4 : Int32))).bind fun r38 => if v2 = (1 : Int32) then (f_R_placeBut_J51 (f_R_placeBut_H n) us v1 v2 v3 (1 : Int32) r38) else (f_R_placeBut_J51 (f_R_placeBut_H n) us v1 v2 v3 (0 : Int32) r38)) else (f_R_placeBut_J56 (f_R_placeBut_H n) us v1 v2 v3)))
def f_R_placeBut (us : Nat → Int32) (a1 : Int32) : Option (Int32) := f_R_placeBut_H 100 us 0 a1 (0 : Int32) 0
def f_R_put_J121 (rc : (Nat → Int32) → (Nat → Int32) → (Nat → Int32) → (Nat → Int32) → (Nat → Int32) → (Nat → Int32) → Int32 → Int32 → Int32 → Int64 → Int32 → Option ((Nat → Int32) × (Nat → Int32) × (Nat → Int32) × (Nat → Int32) × (Nat → Int32) × Int32)) (rm : Nat → Int32) (fl : Nat → Int32) (us : Nat → Int32) (lg : Nat → Int32) (se : Nat → Int32) (wh : Nat → Int32) (nx : Int32) (v1 : Int32) (v2 : Int32) : Option ((Nat → Int32) × (Nat → Int32) × (Nat → Int32) × (Nat → Int32) × (Nat → Int32) × Int32) := if v2 < 0 ∨ 8 ≤ v2.toNatClampNeg then none else some (fl, us, lg, se, (upd wh v2.toNatClampNeg (v1 + (1 : Int32))), nx)
def f_R_put_J95 (rc : (Nat → Int32) → (Nat → Int32) → (Nat → Int32) → (Nat → Int32) → (Nat → Int32) → (Nat → Int32) → Int32 → Int32 → Int32 → Int64 → Int32 → Option ((Nat → Int32) × (Nat → Int32) × (Nat → Int32) × (Nat → Int32) × (Nat → Int32) × Int32)) (rm : Nat → Int32) (fl : Nat → Int32) (us : Nat → Int32) (lg : Nat → Int32) (se : Nat → Int32) (wh : Nat → Int32) (nx : Int32) (v1 : Int32) (v2 : Int32) (z0 : Int32) : Option ((Nat → Int32) × (Nat → Int32) × (Nat → Int32) × (Nat → Int32) × (Nat → Int32) × Int32) := if v2 < 0 ∨ 8 ≤ v2.toNatClampNeg then none else if (wh v2.toNatClampNeg) ≤ 0 then (f_R_put_J121 rc rm fl us lg se wh z0 v1 v2) else (if ((wh v2.toNatClampNeg) - (1 : Int32)) < 0 ∨ 16 ≤ ((wh v2.toNatClampNeg) - (1 : Int32)).toNatClampNeg then none else f_R_put_J121 rc rm fl (upd us ((wh v2.toNatClampNeg) - (1 : Int32)).toNatClampNeg (2 : Int32)) lg se wh z0 v1 v2)
def f_R_put_H : Nat → (Nat → Int32) → (Nat → Int32) → (Nat → Int32) → (Nat → Int32) → (Nat → Int32) → (Nat → Int32) → Int32 → Int32 → Int32 → Int64 → Int32 → Option ((Nat → Int32) × (Nat → Int32) × (Nat → Int32) × (Nat → Int32) × (Nat → Int32) × Int32)
  | 0, _, _, _, _, _, _, _, _, _, _, _ => none
  | n + 1, rm, fl, us, lg, se, wh, nx, v1, v2, v3, v5 => if (4 : Int32) ≤ v5 then ((f_R_program rm fl v1 (4 : Int32) (((4096 : Int32) * v2) + nx)).bind fun fl47 => if v1 < 0 ∨ 16 ≤ v1.toNatClampNeg then none else if nx = (4094 : Int32) then (f_R_put_J95 (f_R_put_H n) rm fl47 (upd us v1.toNatClampNeg (1 : Int32)) (upd lg v1.toNatClampNeg v2) (upd se v1.toNatClampNeg nx) wh nx v1 v2 (0 : Int32)) else (f_R_put_J95 (f_R_put_H n) rm fl47 (upd us v1.toNatClampNeg (1 : Int32)) (upd lg v1.toNatClampNeg v2) (upd se v1.toNatClampNeg nx) wh nx v1 v2 (nx + (1 : Int32)))) else ((f_R_program rm fl v1 v5 (((v3 >>> (((16 : Int32) * v5).toInt64 &&& 63)) &&& (65535 : Int64)).toInt32)).bind fun fl25 => f_R_put_H n rm fl25 us lg se wh nx v1 v2 v3 (v5 + (1 : Int32)))
def f_R_put (rm : Nat → Int32) (fl : Nat → Int32) (us : Nat → Int32) (lg : Nat → Int32) (se : Nat → Int32) (wh : Nat → Int32) (nx : Int32) (a1 : Int32) (a2 : Int32) (a3 : Int64) : Option ((Nat → Int32) × (Nat → Int32) × (Nat → Int32) × (Nat → Int32) × (Nat → Int32) × Int32) := f_R_put_H 100 rm fl us lg se wh nx a1 a2 a3 (0 : Int32)
def f_R_leavesOne_J37 (rc : (Nat → Int32) → Int32 → Int32 → Int32 → Option (Int32)) (us : Nat → Int32) (v1 : Int32) (v3 : Int32) (z0 : Int32) : Option (Int32) := rc us v1 z0 (v3 + (1 : Int32))
def f_R_leavesOne_J36 (rc : (Nat → Int32) → Int32 → Int32 → Int32 → Option (Int32)) (us : Nat → Int32) (v1 : Int32) (v3 : Int32) : Option (Int32) := f_R_leavesOne_J37 rc us v1 v3 (0 : Int32)
def f_R_leavesOne_J32 (rc : (Nat → Int32) → Int32 → Int32 → Int32 → Option (Int32)) (us : Nat → Int32) (v1 : Int32) (v3 : Int32) : Option (Int32) := f_R_leavesOne_J37 rc us v1 v3 (1 : Int32)
def f_R_leavesOne_H : Nat → (Nat → Int32) → Int32 → Int32 → Int32 → Option (Int32)
  | 0, _, _, _, _ => none
  | n + 1, us, v1, v2, v3 => if (4 : Int32) ≤ v3 then (if ¬ (v2 = 0 ∨ v2 = 1) then none else some v2) else (if v2 = 0 then (if v1 < 0 then (f_R_leavesOne_J36 (f_R_leavesOne_H n) us v1 v3) else (if v3 = (v1 / (4 : Int32)) then (f_R_leavesOne_J36 (f_R_leavesOne_H n) us v1 v3) else ((f_R_empty us v3).bind fun r26 => if r26 = 0 then (f_R_leavesOne_J36 (f_R_leavesOne_H n) us v1 v3) else (f_R_leavesOne_J32 (f_R_leavesOne_H n) us v1 v3)))) else (f_R_leavesOne_J32 (f_R_leavesOne_H n) us v1 v3))
def f_R_leavesOne (us : Nat → Int32) (a1 : Int32) : Option (Int32) := f_R_leavesOne_H 100 us a1 (0 : Int32) (0 : Int32)
def f_R_toClean_J131 (rc : (Nat → Int32) → (Nat → Int32) → Nat → Int32 → Int32 → Int32 → Int32 → Int32 → Option (Int32)) (us : Nat → Int32) (we : Nat → Int32) (v1 : Int32) (v2 : Int32) : Option (Int32) := rc us we 0 v1 (v2 + (1 : Int32)) 0 0 0
def f_R_toClean_J130 (rc : (Nat → Int32) → (Nat → Int32) → Nat → Int32 → Int32 → Int32 → Int32 → Int32 → Option (Int32)) (us : Nat → Int32) (we : Nat → Int32) (v2 : Int32) (z0 : Int32) : Option (Int32) := f_R_toClean_J131 rc us we z0 v2
def f_R_toClean_J118 (rc : (Nat → Int32) → (Nat → Int32) → Nat → Int32 → Int32 → Int32 → Int32 → Int32 → Option (Int32)) (us : Nat → Int32) (we : Nat → Int32) (v1 : Int32) (v2 : Int32) (z0 : Int32) : Option (Int32) := if z0 = 0 then (f_R_toClean_J130 rc us we v2 v1) else (f_R_toClean_J130 rc us we v2 v2)
def f_R_toClean_J117 (rc : (Nat → Int32) → (Nat → Int32) → Nat → Int32 → Int32 → Int32 → Int32 → Int32 → Option (Int32)) (us : Nat → Int32) (we : Nat → Int32) (v1 : Int32) (v2 : Int32) : Option (Int32) := f_R_toClean_J118 rc us we v1 v2 (0 : Int32)
def f_R_toClean_J113 (rc : (Nat → Int32) → (Nat → Int32) → Nat → Int32 → Int32 → Int32 → Int32 → Int32 → Option (Int32)) (us : Nat → Int32) (we : Nat → Int32) (v1 : Int32) (v2 : Int32) : Option (Int32) := f_R_toClean_J118 rc us we v1 v2 (1 : Int32)
def f_R_toClean_H : Nat → (Nat → Int32) → (Nat → Int32) → Nat → Int32 → Int32 → Int32 → Int32 → Int32 → Option (Int32)
  | 0, _, _, _, _, _, _, _, _ => none
  | n + 1, us, we, 0, v1, v2, v3, v4, v5 => if (4 : Int32) ≤ v2 then (some v1) else ((f_R_count us v2 (1 : Int32)).bind fun r12 => (f_R_count us v2 (0 : Int32)).bind fun r19 => f_R_toClean_H n us we 1 v1 v2 r12 (-r19) (0 : Int32))
  | n + 1, us, we, _, v1, v2, v3, v4, v5 => if (4 : Int32) ≤ v5 then ((f_R_empty us v2).bind fun r54 => if r54 = 0 then (if v3 = (4 : Int32) then (f_R_toClean_J131 (f_R_toClean_H n) us we v1 v2) else (if v3 ≤ v4 then (if v1 < 0 then (f_R_toClean_J113 (f_R_toClean_H n) us we v1 v2) else ((f_R_count us v1 (1 : Int32)).bind fun r82 => if v3 < r82 then (f_R_toClean_J113 (f_R_toClean_H n) us we v1 v2) else ((f_R_count us v1 (1 : Int32)).bind fun r92 => if v3 = r92 then (if v2 < 0 ∨ 4 ≤ v2.toNatClampNeg then none else if v1 < 0 ∨ 4 ≤ v1.toNatClampNeg then none else if (we v1.toNatClampNeg) ≤ (we v2.toNatClampNeg) then (f_R_toClean_J117 (f_R_toClean_H n) us we v1 v2) else (f_R_toClean_J113 (f_R_toClean_H n) us we v1 v2)) else (f_R_toClean_J117 (f_R_toClean_H n) us we v1 v2)))) else (f_R_toClean_J131 (f_R_toClean_H n) us we v1 v2))) else (f_R_toClean_J131 (f_R_toClean_H n) us we v1 v2)) else ((f_R_count us v5 (0 : Int32)).bind fun r40 => f_R_toClean_H n us we 1 v1 v2 v3 (v4 + r40) (v5 + (1 : Int32)))
def f_R_toClean (us : Nat → Int32) (we : Nat → Int32) : Option (Int32) := f_R_toClean_H 100 us we 0 (-1 : Int32) (0 : Int32) 0 0 0
def f_R_cleanBlock_J66 (rc : (Nat → Int32) → (Nat → Int32) → (Nat → Int32) → (Nat → Int32) → (Nat → Int32) → (Nat → Int32) → (Nat → Int32) → Int32 → Int32 → Nat → Int32 → Int32 → Int32 → Option ((Nat → Int32) × (Nat → Int32) × (Nat → Int32) × (Nat → Int32) × (Nat → Int32) × (Nat → Int32) × Int32 × Int32)) (rm : Nat → Int32) (fl : Nat → Int32) (us : Nat → Int32) (lg : Nat → Int32) (se : Nat → Int32) (we : Nat → Int32) (wh : Nat → Int32) (nx : Int32) (wr : Int32) (v1 : Int32) (v2 : Int32) : Option ((Nat → Int32) × (Nat → Int32) × (Nat → Int32) × (Nat → Int32) × (Nat → Int32) × (Nat → Int32) × Int32 × Int32) := rc rm fl us lg se we wh nx wr 0 v1 (v2 + (1 : Int32)) 0
def f_R_cleanBlock_H : Nat → (Nat → Int32) → (Nat → Int32) → (Nat → Int32) → (Nat → Int32) → (Nat → Int32) → (Nat → Int32) → (Nat → Int32) → Int32 → Int32 → Nat → Int32 → Int32 → Int32 → Option ((Nat → Int32) × (Nat → Int32) × (Nat → Int32) × (Nat → Int32) × (Nat → Int32) × (Nat → Int32) × Int32 × Int32)
  | 0, _, _, _, _, _, _, _, _, _, _, _, _, _ => none
  | n + 1, rm, fl, us, lg, se, we, wh, nx, wr, 0, v1, v2, v3 => if (((4 : Int32) * v1) + (4 : Int32)) ≤ v2 then (f_R_cleanBlock_H n rm fl us lg se we wh nx wr 1 v1 ((4 : Int32) * v1) 0) else (if v2 < 0 ∨ 16 ≤ v2.toNatClampNeg then none else if (us v2.toNatClampNeg) = (1 : Int32) then ((f_R_readable rm fl wr v2).bind fun (r25, wr25) => if r25 = 0 then (if v2 < 0 ∨ 16 ≤ v2.toNatClampNeg then none else if (lg v2.toNatClampNeg) < 0 ∨ 8 ≤ (lg v2.toNatClampNeg).toNatClampNeg then none else f_R_cleanBlock_J66 (f_R_cleanBlock_H n) rm fl us lg se we (upd wh (lg v2.toNatClampNeg).toNatClampNeg (0 : Int32)) nx wr25 v1 v2) else ((f_R_placeBut us v1).bind fun r34 => if v2 < 0 ∨ 16 ≤ v2.toNatClampNeg then none else (f_R_contentOf rm fl wr25 v2).bind fun (r45, wr45) => (f_R_put rm fl us lg se wh nx r34 (lg v2.toNatClampNeg) r45).bind fun (fl48, us48, lg48, se48, wh48, nx48) => f_R_cleanBlock_J66 (f_R_cleanBlock_H n) rm fl48 us48 lg48 se48 we wh48 nx48 wr45 v1 v2)) else (f_R_cleanBlock_J66 (f_R_cleanBlock_H n) rm fl us lg se we wh nx wr v1 v2))
  | n + 1, rm, fl, us, lg, se, we, wh, nx, wr, 1, v1, v2, v3 => if (((4 : Int32) * v1) + (4 : Int32)) ≤ v2 then (if v1 < 0 ∨ 4 ≤ v1.toNatClampNeg then none else some (fl, us, lg, se, (upd we v1.toNatClampNeg ((we v1.toNatClampNeg) + (1 : Int32))), wh, nx, wr)) else (if v2 < 0 ∨ 16 ≤ v2.toNatClampNeg then none else f_R_cleanBlock_H n rm fl (upd us v2.toNatClampNeg (0 : Int32)) lg se we wh nx wr 2 v1 v2 (0 : Int32))
  | n + 1, rm, fl, us, lg, se, we, wh, nx, wr, _, v1, v2, v3 => if (5 : Int32) ≤ v3 then (f_R_cleanBlock_H n rm fl us lg se we wh nx wr 1 v1 (v2 + (1 : Int32)) 0) else (if (((5 : Int32) * v2) + v3) < 0 ∨ 80 ≤ (((5 : Int32) * v2) + v3).toNatClampNeg then none else f_R_cleanBlock_H n rm (upd fl (((5 : Int32) * v2) + v3).toNatClampNeg (2147483647 : Int32)) us lg se we wh nx wr 2 v1 v2 (v3 + (1 : Int32)))
def f_R_cleanBlock (rm : Nat → Int32) (fl : Nat → Int32) (us : Nat → Int32) (lg : Nat → Int32) (se : Nat → Int32) (we : Nat → Int32) (wh : Nat → Int32) (nx : Int32) (wr : Int32) (a1 : Int32) : Option ((Nat → Int32) × (Nat → Int32) × (Nat → Int32) × (Nat → Int32) × (Nat → Int32) × (Nat → Int32) × Int32 × Int32) := f_R_cleanBlock_H 100 rm fl us lg se we wh nx wr 0 a1 ((4 : Int32) * a1) 0
def f_R_clean_J15 (rm : Nat → Int32) (fl : Nat → Int32) (us : Nat → Int32) (lg : Nat → Int32) (se : Nat → Int32) (we : Nat → Int32) (wh : Nat → Int32) (th : Int32) (nx : Int32) (wr : Int32) (v1 : Int32) (z0 : Int32) : Option (Int32 × (Nat → Int32) × (Nat → Int32) × (Nat → Int32) × (Nat → Int32) × (Nat → Int32) × (Nat → Int32) × Int32 × Int32 × Int32) := if z0 ≤ 0 then ((f_R_cleanBlock rm fl us lg se we wh nx wr v1).bind fun (fl29, us29, lg29, se29, we29, wh29, nx29, wr29) => some (v1, fl29, us29, lg29, se29, we29, wh29, z0, nx29, wr29)) else (some ((0 : Int32), fl, us, lg, se, we, wh, z0, nx, wr))
def f_R_clean (rm : Nat → Int32) (fl : Nat → Int32) (us : Nat → Int32) (lg : Nat → Int32) (se : Nat → Int32) (we : Nat → Int32) (wh : Nat → Int32) (th : Int32) (nx : Int32) (wr : Int32) : Option (Int32 × (Nat → Int32) × (Nat → Int32) × (Nat → Int32) × (Nat → Int32) × (Nat → Int32) × (Nat → Int32) × Int32 × Int32 × Int32) := (f_R_toClean us we).bind fun r1 => if 0 ≤ r1 then (f_R_clean_J15 rm fl us lg se we wh th nx wr r1 (0 : Int32)) else (f_R_clean_J15 rm fl us lg se we wh th nx wr r1 (1 : Int32))
def f_R_write_J83 (rc : (Nat → Int32) → (Nat → Int32) → (Nat → Int32) → (Nat → Int32) → (Nat → Int32) → (Nat → Int32) → (Nat → Int32) → Int32 → Int32 → Int32 → Int32 → Int64 → Option ((Nat → Int32) × (Nat → Int32) × (Nat → Int32) × (Nat → Int32) × (Nat → Int32) × (Nat → Int32) × Int32 × Int32 × Int32)) (rm : Nat → Int32) (fl : Nat → Int32) (us : Nat → Int32) (lg : Nat → Int32) (se : Nat → Int32) (we : Nat → Int32) (wh : Nat → Int32) (th : Int32) (nx : Int32) (wr : Int32) : Option ((Nat → Int32) × (Nat → Int32) × (Nat → Int32) × (Nat → Int32) × (Nat → Int32) × (Nat → Int32) × Int32 × Int32 × Int32) := some (fl, us, lg, se, we, wh, th, nx, wr)
def f_R_write_J65 (rc : (Nat → Int32) → (Nat → Int32) → (Nat → Int32) → (Nat → Int32) → (Nat → Int32) → (Nat → Int32) → (Nat → Int32) → Int32 → Int32 → Int32 → Int32 → Int64 → Option ((Nat → Int32) × (Nat → Int32) × (Nat → Int32) × (Nat → Int32) × (Nat → Int32) × (Nat → Int32) × Int32 × Int32 × Int32)) (rm : Nat → Int32) (fl : Nat → Int32) (us : Nat → Int32) (lg : Nat → Int32) (se : Nat → Int32) (we : Nat → Int32) (wh : Nat → Int32) (th : Int32) (nx : Int32) (wr : Int32) (v1 : Int32) (v2 : Int64) : Option ((Nat → Int32) × (Nat → Int32) × (Nat → Int32) × (Nat → Int32) × (Nat → Int32) × (Nat → Int32) × Int32 × Int32 × Int32) := if th = 0 then ((f_R_placeBut us (-1 : Int32)).bind fun r75 => (f_R_put rm fl us lg se wh nx r75 v1 v2).bind fun (fl80, us80, lg80, se80, wh80, nx80) => f_R_write_J83 rc rm fl80 us80 lg80 se80 we wh80 th nx80 wr) else (f_R_write_J83 rc rm fl us lg se we wh th nx wr)
def f_R_write_J62 (rc : (Nat → Int32) → (Nat → Int32) → (Nat → Int32) → (Nat → Int32) → (Nat → Int32) → (Nat → Int32) → (Nat → Int32) → Int32 → Int32 → Int32 → Int32 → Int64 → Option ((Nat → Int32) × (Nat → Int32) × (Nat → Int32) × (Nat → Int32) × (Nat → Int32) × (Nat → Int32) × Int32 × Int32 × Int32)) (rm : Nat → Int32) (fl : Nat → Int32) (us : Nat → Int32) (lg : Nat → Int32) (se : Nat → Int32) (we : Nat → Int32) (wh : Nat → Int32) (th : Int32) (nx : Int32) (wr : Int32) (v1 : Int32) (v2 : Int64) : Option ((Nat → Int32) × (Nat → Int32) × (Nat → Int32) × (Nat → Int32) × (Nat → Int32) × (Nat → Int32) × Int32 × Int32 × Int32) := rc rm fl us lg se we wh th nx wr v1 v2
def f_R_write_J15 (rc : (Nat → Int32) → (Nat → Int32) → (Nat → Int32) → (Nat → Int32) → (Nat → Int32) → (Nat → Int32) → (Nat → Int32) → Int32 → Int32 → Int32 → Int32 → Int64 → Option ((Nat → Int32) × (Nat → Int32) × (Nat → Int32) × (Nat → Int32) × (Nat → Int32) × (Nat → Int32) × Int32 × Int32 × Int32)) (rm : Nat → Int32) (fl : Nat → Int32) (us : Nat → Int32) (lg : Nat → Int32) (se : Nat → Int32) (we : Nat → Int32) (wh : Nat → Int32) (th : Int32) (nx : Int32) (wr : Int32) (v1 : Int32) (v2 : Int64) (z0 : Int32) : Option ((Nat → Int32) × (Nat → Int32) × (Nat → Int32) × (Nat → Int32) × (Nat → Int32) × (Nat → Int32) × Int32 × Int32 × Int32) := rc rm fl us lg se we wh z0 nx wr v1 v2
def f_R_write_H : Nat → (Nat → Int32) → (Nat → Int32) → (Nat → Int32) → (Nat → Int32) → (Nat → Int32) → (Nat → Int32) → (Nat → Int32) → Int32 → Int32 → Int32 → Int32 → Int64 → Option ((Nat → Int32) × (Nat → Int32) × (Nat → Int32) × (Nat → Int32) × (Nat → Int32) × (Nat → Int32) × Int32 × Int32 × Int32)
  | 0, _, _, _, _, _, _, _, _, _, _, _, _ => none
  | n + 1, rm, fl, us, lg, se, we, wh, th, nx, wr, v1, v2 => if th = 0 then ((f_R_placeBut us (-1 : Int32)).bind fun r28 => (f_R_leavesOne us r28).bind fun r31 => if r31 = 0 then ((f_R_toClean us we).bind fun r38 => if 0 ≤ r38 then ((f_R_cleanBlock rm fl us lg se we wh nx wr r38).bind fun (fl59, us59, lg59, se59, we59, wh59, nx59, wr59) => f_R_write_J62 (f_R_write_H n) rm fl59 us59 lg59 se59 we59 wh59 th nx59 wr59 v1 v2) else (f_R_write_J62 (f_R_write_H n) rm fl us lg se we wh (2 : Int32) nx wr v1 v2)) else (f_R_write_J65 (f_R_write_H n) rm fl us lg se we wh th nx wr v1 v2)) else (f_R_write_J65 (f_R_write_H n) rm fl us lg se we wh th nx wr v1 v2)
def f_R_write (rm : Nat → Int32) (fl : Nat → Int32) (us : Nat → Int32) (lg : Nat → Int32) (se : Nat → Int32) (we : Nat → Int32) (wh : Nat → Int32) (th : Int32) (nx : Int32) (wr : Int32) (a1 : Int32) (a2 : Int64) : Option ((Nat → Int32) × (Nat → Int32) × (Nat → Int32) × (Nat → Int32) × (Nat → Int32) × (Nat → Int32) × Int32 × Int32 × Int32) := (f_R_out a1 (8 : Int32)).bind fun r4 => if r4 = 0 then (f_R_write_J15 (f_R_write_H 100) rm fl us lg se we wh th nx wr a1 a2 (0 : Int32)) else (f_R_write_J15 (f_R_write_H 100) rm fl us lg se we wh th nx wr a1 a2 (1 : Int32))
def f_R_read_J77 (rm : Nat → Int32) (fl : Nat → Int32) (wh : Nat → Int32) (th : Int32) (wr : Int32) (z0 : Int64) : Option (Int64 × Int32 × Int32) := some (z0, th, wr)
def f_R_read_J58 (rm : Nat → Int32) (fl : Nat → Int32) (wh : Nat → Int32) (th : Int32) (wr : Int32) (v2 : Int32) (z0 : Int32) : Option (Int64 × Int32 × Int32) := if z0 ≤ 0 then ((f_R_contentOf rm fl wr v2).bind fun (r74, wr74) => f_R_read_J77 rm fl wh z0 wr74 r74) else (f_R_read_J77 rm fl wh z0 wr (0 : Int64))
def f_R_read_J15 (rm : Nat → Int32) (fl : Nat → Int32) (wh : Nat → Int32) (th : Int32) (wr : Int32) (v1 : Int32) (z0 : Int32) : Option (Int64 × Int32 × Int32) := if z0 ≤ 0 then (if v1 < 0 ∨ 8 ≤ v1.toNatClampNeg then none else if 0 ≤ ((wh v1.toNatClampNeg) - (1 : Int32)) then ((f_R_readable rm fl wr ((wh v1.toNatClampNeg) - (1 : Int32))).bind fun (r47, wr47) => if r47 = 0 then (f_R_read_J58 rm fl wh z0 wr47 ((wh v1.toNatClampNeg) - (1 : Int32)) (3 : Int32)) else (f_R_read_J58 rm fl wh z0 wr47 ((wh v1.toNatClampNeg) - (1 : Int32)) (0 : Int32))) else (f_R_read_J58 rm fl wh z0 wr ((wh v1.toNatClampNeg) - (1 : Int32)) (2 : Int32))) else (some ((0 : Int64), z0, wr))
def f_R_read (rm : Nat → Int32) (fl : Nat → Int32) (wh : Nat → Int32) (th : Int32) (wr : Int32) (a1 : Int32) : Option (Int64 × Int32 × Int32) := (f_R_out a1 (8 : Int32)).bind fun r4 => if r4 = 0 then (f_R_read_J15 rm fl wh th wr a1 (0 : Int32)) else (f_R_read_J15 rm fl wh th wr a1 (1 : Int32))
def f_R_trim_J34 (us : Nat → Int32) (wh : Nat → Int32) (th : Int32) : Option (Int32 × (Nat → Int32) × (Nat → Int32) × Int32) := if ¬ ((0 : Int32) = 0 ∨ (0 : Int32) = 1) then none else some ((0 : Int32), us, wh, th)
def f_R_trim_J15 (us : Nat → Int32) (wh : Nat → Int32) (th : Int32) (v1 : Int32) (z0 : Int32) : Option (Int32 × (Nat → Int32) × (Nat → Int32) × Int32) := if 0 < z0 then (f_R_trim_J34 us wh z0) else (if v1 < 0 ∨ 8 ≤ v1.toNatClampNeg then none else if (wh v1.toNatClampNeg) = 0 then (f_R_trim_J34 us wh z0) else (if ((wh v1.toNatClampNeg) - (1 : Int32)) < 0 ∨ 16 ≤ ((wh v1.toNatClampNeg) - (1 : Int32)).toNatClampNeg then none else if ¬ ((1 : Int32) = 0 ∨ (1 : Int32) = 1) then none else some ((1 : Int32), (upd us ((wh v1.toNatClampNeg) - (1 : Int32)).toNatClampNeg (2 : Int32)), (upd wh v1.toNatClampNeg (0 : Int32)), z0)))
def f_R_trim (us : Nat → Int32) (wh : Nat → Int32) (th : Int32) (a1 : Int32) : Option (Int32 × (Nat → Int32) × (Nat → Int32) × Int32) := (f_R_out a1 (8 : Int32)).bind fun r4 => if r4 = 0 then (f_R_trim_J15 us wh th a1 (0 : Int32)) else (f_R_trim_J15 us wh th a1 (1 : Int32))
def f_R_mount_J236 (rc : (Nat → Int32) → (Nat → Int32) → (Nat → Int32) → (Nat → Int32) → (Nat → Int32) → (Nat → Int32) → Int32 → Int32 → Int32 → Nat → Int32 → Int32 → Int32 → Option (Int32 × (Nat → Int32) × (Nat → Int32) × (Nat → Int32) × (Nat → Int32) × Int32 × Int32 × Int32)) (rm : Nat → Int32) (fl : Nat → Int32) (us : Nat → Int32) (lg : Nat → Int32) (se : Nat → Int32) (wh : Nat → Int32) (th : Int32) (nx : Int32) (wr : Int32) (v2 : Int32) (z0 : Int32) : Option (Int32 × (Nat → Int32) × (Nat → Int32) × (Nat → Int32) × (Nat → Int32) × Int32 × Int32 × Int32) := some (v2, us, lg, se, wh, th, z0, wr)
def f_R_mount_J214 (rc : (Nat → Int32) → (Nat → Int32) → (Nat → Int32) → (Nat → Int32) → (Nat → Int32) → (Nat → Int32) → Int32 → Int32 → Int32 → Nat → Int32 → Int32 → Int32 → Option (Int32 × (Nat → Int32) × (Nat → Int32) × (Nat → Int32) × (Nat → Int32) × Int32 × Int32 × Int32)) (rm : Nat → Int32) (fl : Nat → Int32) (us : Nat → Int32) (lg : Nat → Int32) (se : Nat → Int32) (wh : Nat → Int32) (th : Int32) (nx : Int32) (wr : Int32) (v1 : Int32) (v2 : Int32) (v3 : Int32) : Option (Int32 × (Nat → Int32) × (Nat → Int32) × (Nat → Int32) × (Nat → Int32) × Int32 × Int32 × Int32) := rc rm fl us lg se wh th nx wr 1 v1 v2 (v3 + (1 : Int32))
def f_R_mount_J207 (rc : (Nat → Int32) → (Nat → Int32) → (Nat → Int32) → (Nat → Int32) → (Nat → Int32) → (Nat → Int32) → Int32 → Int32 → Int32 → Nat → Int32 → Int32 → Int32 → Option (Int32 × (Nat → Int32) × (Nat → Int32) × (Nat → Int32) × (Nat → Int32) × Int32 × Int32 × Int32)) (rm : Nat → Int32) (fl : Nat → Int32) (us : Nat → Int32) (lg : Nat → Int32) (se : Nat → Int32) (wh : Nat → Int32) (th : Int32) (nx : Int32) (wr : Int32) (v2 : Int32) (v3 : Int32) : Option (Int32 × (Nat → Int32) × (Nat → Int32) × (Nat → Int32) × (Nat → Int32) × Int32 × Int32 × Int32) := if v3 < 0 ∨ 16 ≤ v3.toNatClampNeg then none else f_R_mount_J214 rc rm fl us lg se wh th nx wr (se v3.toNatClampNeg) v2 v3
def f_R_mount_J190 (rc : (Nat → Int32) → (Nat → Int32) → (Nat → Int32) → (Nat → Int32) → (Nat → Int32) → (Nat → Int32) → Int32 → Int32 → Int32 → Nat → Int32 → Int32 → Int32 → Option (Int32 × (Nat → Int32) × (Nat → Int32) × (Nat → Int32) × (Nat → Int32) × Int32 × Int32 × Int32)) (rm : Nat → Int32) (fl : Nat → Int32) (us : Nat → Int32) (lg : Nat → Int32) (se : Nat → Int32) (wh : Nat → Int32) (th : Int32) (nx : Int32) (wr : Int32) (v1 : Int32) (v2 : Int32) (v3 : Int32) : Option (Int32 × (Nat → Int32) × (Nat → Int32) × (Nat → Int32) × (Nat → Int32) × Int32 × Int32 × Int32) := if v1 < 0 then (f_R_mount_J207 rc rm fl us lg se wh th nx wr v2 v3) else (if v3 < 0 ∨ 16 ≤ v3.toNatClampNeg then none else (f_R_newer (se v3.toNatClampNeg) v1).bind fun r201 => if r201 = 0 then (f_R_mount_J214 rc rm fl us lg se wh th nx wr v1 v2 v3) else (f_R_mount_J207 rc rm fl us lg se wh th nx wr v2 v3))
def f_R_mount_J173 (rc : (Nat → Int32) → (Nat → Int32) → (Nat → Int32) → (Nat → Int32) → (Nat → Int32) → (Nat → Int32) → Int32 → Int32 → Int32 → Nat → Int32 → Int32 → Int32 → Option (Int32 × (Nat → Int32) × (Nat → Int32) × (Nat → Int32) × (Nat → Int32) × Int32 × Int32 × Int32)) (rm : Nat → Int32) (fl : Nat → Int32) (us : Nat → Int32) (lg : Nat → Int32) (se : Nat → Int32) (wh : Nat → Int32) (th : Int32) (nx : Int32) (wr : Int32) (v1 : Int32) (v2 : Int32) (v3 : Int32) (v5 : Int32) : Option (Int32 × (Nat → Int32) × (Nat → Int32) × (Nat → Int32) × (Nat → Int32) × Int32 × Int32 × Int32) := if v3 < 0 ∨ 16 ≤ v3.toNatClampNeg then none else if v5 < 0 ∨ 8 ≤ v5.toNatClampNeg then none else f_R_mount_J190 rc rm fl (upd us v3.toNatClampNeg (1 : Int32)) lg se (upd wh v5.toNatClampNeg (v3 + (1 : Int32))) th nx wr v1 v2 v3
def f_R_mount_J159 (rc : (Nat → Int32) → (Nat → Int32) → (Nat → Int32) → (Nat → Int32) → (Nat → Int32) → (Nat → Int32) → Int32 → Int32 → Int32 → Nat → Int32 → Int32 → Int32 → Option (Int32 × (Nat → Int32) × (Nat → Int32) × (Nat → Int32) × (Nat → Int32) × Int32 × Int32 × Int32)) (rm : Nat → Int32) (fl : Nat → Int32) (us : Nat → Int32) (lg : Nat → Int32) (se : Nat → Int32) (wh : Nat → Int32) (th : Int32) (nx : Int32) (wr : Int32) (v1 : Int32) (v3 : Int32) (v5 : Int32) (v6 : Int32) (z0 : Int32) : Option (Int32 × (Nat → Int32) × (Nat → Int32) × (Nat → Int32) × (Nat → Int32) × Int32 × Int32 × Int32) := if v6 < 0 then (f_R_mount_J173 rc rm fl us lg se wh th nx wr v1 z0 v3 v5) else (if v6 < 0 ∨ 16 ≤ v6.toNatClampNeg then none else f_R_mount_J173 rc rm fl (upd us v6.toNatClampNeg (2 : Int32)) lg se wh th nx wr v1 z0 v3 v5)
def f_R_mount_J147 (rc : (Nat → Int32) → (Nat → Int32) → (Nat → Int32) → (Nat → Int32) → (Nat → Int32) → (Nat → Int32) → Int32 → Int32 → Int32 → Nat → Int32 → Int32 → Int32 → Option (Int32 × (Nat → Int32) × (Nat → Int32) × (Nat → Int32) × (Nat → Int32) × Int32 × Int32 × Int32)) (rm : Nat → Int32) (fl : Nat → Int32) (us : Nat → Int32) (lg : Nat → Int32) (se : Nat → Int32) (wh : Nat → Int32) (th : Int32) (nx : Int32) (wr : Int32) (v1 : Int32) (v2 : Int32) (v3 : Int32) (v5 : Int32) (v6 : Int32) : Option (Int32 × (Nat → Int32) × (Nat → Int32) × (Nat → Int32) × (Nat → Int32) × Int32 × Int32 × Int32) := if 0 ≤ v6 then (f_R_mount_J159 rc rm fl us lg se wh th nx wr v1 v3 v5 v6 v2) else (f_R_mount_J159 rc rm fl us lg se wh th nx wr v1 v3 v5 v6 (v2 + (1 : Int32)))
def f_R_mount_J71 (rc : (Nat → Int32) → (Nat → Int32) → (Nat → Int32) → (Nat → Int32) → (Nat → Int32) → (Nat → Int32) → Int32 → Int32 → Int32 → Nat → Int32 → Int32 → Int32 → Option (Int32 × (Nat → Int32) × (Nat → Int32) × (Nat → Int32) × (Nat → Int32) × Int32 × Int32 × Int32)) (rm : Nat → Int32) (fl : Nat → Int32) (us : Nat → Int32) (lg : Nat → Int32) (se : Nat → Int32) (wh : Nat → Int32) (th : Int32) (nx : Int32) (wr : Int32) (v1 : Int32) (v2 : Int32) (v3 : Int32) (v4 : Int32) (z0 : Int32) (z1 : Int32) : Option (Int32 × (Nat → Int32) × (Nat → Int32) × (Nat → Int32) × (Nat → Int32) × Int32 × Int32 × Int32) := if z1 < 0 ∨ 16 ≤ z1.toNatClampNeg then none else if v4 < 0 then (f_R_mount_J214 rc rm fl (upd us z1.toNatClampNeg z0) lg se wh th nx wr v1 v2 v3) else (if (32768 : Int32) ≤ v4 then (f_R_mount_J214 rc rm fl (upd us z1.toNatClampNeg z0) lg se wh th nx wr v1 v2 v3) else (if v3 < 0 ∨ 16 ≤ v3.toNatClampNeg then none else if (v4 / (4096 : Int32)) < 0 ∨ 8 ≤ (v4 / (4096 : Int32)).toNatClampNeg then none else if ((wh (v4 / (4096 : Int32)).toNatClampNeg) - (1 : Int32)) < 0 then (f_R_mount_J147 rc rm fl (upd us z1.toNatClampNeg z0) (upd lg v3.toNatClampNeg (v4 / (4096 : Int32))) (upd se v3.toNatClampNeg (v4 - v4 / (4096 : Int32) * (4096 : Int32))) wh th nx wr v1 v2 v3 (v4 / (4096 : Int32)) ((wh (v4 / (4096 : Int32)).toNatClampNeg) - (1 : Int32))) else (if ((wh (v4 / (4096 : Int32)).toNatClampNeg) - (1 : Int32)) < 0 ∨ 16 ≤ ((wh (v4 / (4096 : Int32)).toNatClampNeg) - (1 : Int32)).toNatClampNeg then none else (f_R_newer ((upd se v3.toNatClampNeg (v4 - v4 / (4096 : Int32) * (4096 : Int32))) v3.toNatClampNeg) ((upd se v3.toNatClampNeg (v4 - v4 / (4096 : Int32) * (4096 : Int32))) ((wh (v4 / (4096 : Int32)).toNatClampNeg) - (1 : Int32)).toNatClampNeg)).bind fun r141 => if r141 = 0 then (f_R_mount_J190 rc rm fl (upd us z1.toNatClampNeg z0) (upd lg v3.toNatClampNeg (v4 / (4096 : Int32))) (upd se v3.toNatClampNeg (v4 - v4 / (4096 : Int32) * (4096 : Int32))) wh th nx wr v1 v2 v3) else (f_R_mount_J147 rc rm fl (upd us z1.toNatClampNeg z0) (upd lg v3.toNatClampNeg (v4 / (4096 : Int32))) (upd se v3.toNatClampNeg (v4 - v4 / (4096 : Int32) * (4096 : Int32))) wh th nx wr v1 v2 v3 (v4 / (4096 : Int32)) ((wh (v4 / (4096 : Int32)).toNatClampNeg) - (1 : Int32))))))
def f_R_mount_H : Nat → (Nat → Int32) → (Nat → Int32) → (Nat → Int32) → (Nat → Int32) → (Nat → Int32) → (Nat → Int32) → Int32 → Int32 → Int32 → Nat → Int32 → Int32 → Int32 → Option (Int32 × (Nat → Int32) × (Nat → Int32) × (Nat → Int32) × (Nat → Int32) × Int32 × Int32 × Int32)
  | 0, _, _, _, _, _, _, _, _, _, _, _, _, _ => none
  | n + 1, rm, fl, us, lg, se, wh, th, nx, wr, 0, v1, v2, v3 => if (8 : Int32) ≤ v1 then (f_R_mount_H n rm fl us lg se wh th nx wr 1 (-1 : Int32) (0 : Int32) (0 : Int32)) else (if v1 < 0 ∨ 8 ≤ v1.toNatClampNeg then none else f_R_mount_H n rm fl us lg se (upd wh v1.toNatClampNeg (0 : Int32)) th nx wr 0 (v1 + (1 : Int32)) 0 0)
  | n + 1, rm, fl, us, lg, se, wh, th, nx, wr, _, v1, v2, v3 => if (16 : Int32) ≤ v3 then (if 0 ≤ v1 then (f_R_mount_J236 (f_R_mount_H n) rm fl us lg se wh th nx wr v2 ((v1 + (1 : Int32)) - (v1 + (1 : Int32)) / (4095 : Int32) * (4095 : Int32))) else (f_R_mount_J236 (f_R_mount_H n) rm fl us lg se wh th nx wr v2 (0 : Int32))) else (if (((5 : Int32) * v3) + (4 : Int32)) < 0 ∨ 80 ≤ (((5 : Int32) * v3) + (4 : Int32)).toNatClampNeg then none else (f_R_dataOf rm wr (fl (((5 : Int32) * v3) + (4 : Int32)).toNatClampNeg)).bind fun (r49, wr49) => if r49 = (65535 : Int32) then (f_R_mount_J71 (f_R_mount_H n) rm fl us lg se wh th nx wr49 v1 v2 v3 r49 (0 : Int32) v3) else (f_R_mount_J71 (f_R_mount_H n) rm fl us lg se wh th nx wr49 v1 v2 v3 r49 (2 : Int32) v3))
def f_R_mount (rm : Nat → Int32) (fl : Nat → Int32) (us : Nat → Int32) (lg : Nat → Int32) (se : Nat → Int32) (wh : Nat → Int32) (th : Int32) (nx : Int32) (wr : Int32) : Option (Int32 × (Nat → Int32) × (Nat → Int32) × (Nat → Int32) × (Nat → Int32) × Int32 × Int32 × Int32) := f_R_mount_H 100 rm fl us lg se wh (0 : Int32) nx wr 0 (0 : Int32) 0 0
def f_R_spoil_J65 (fl : Nat → Int32) (th : Int32) : Option ((Nat → Int32) × Int32) := some (fl, th)
def f_R_spoil_J27 (fl : Nat → Int32) (th : Int32) (v1 : Int32) (v2 : Int32) (v3 : Int32) (v4 : Int32) (z0 : Int32) : Option ((Nat → Int32) × Int32) := if z0 = 0 then (if (((5 : Int32) * (((4 : Int32) * v1) + v2)) + v3) < 0 ∨ 80 ≤ (((5 : Int32) * (((4 : Int32) * v1) + v2)) + v3).toNatClampNeg then none else f_R_spoil_J65 (upd fl (((5 : Int32) * (((4 : Int32) * v1) + v2)) + v3).toNatClampNeg ((fl (((5 : Int32) * (((4 : Int32) * v1) + v2)) + v3).toNatClampNeg) ^^^ v4)) z0) else (f_R_spoil_J65 fl z0)
def f_R_spoil_J26 (fl : Nat → Int32) (th : Int32) (v1 : Int32) (v2 : Int32) (v3 : Int32) (v4 : Int32) : Option ((Nat → Int32) × Int32) := f_R_spoil_J27 fl th v1 v2 v3 v4 (1 : Int32)
def f_R_spoil (fl : Nat → Int32) (th : Int32) (a1 : Int32) (a2 : Int32) (a3 : Int32) (a4 : Int32) : Option ((Nat → Int32) × Int32) := (f_R_isPage a1 a2).bind fun r3 => if r3 = 0 then (f_R_spoil_J26 fl th a1 a2 a3 a4) else ((f_R_out a3 (5 : Int32)).bind fun r11 => if r11 = 0 then (if a4 < 0 then (f_R_spoil_J26 fl th a1 a2 a3 a4) else (f_R_spoil_J27 fl th a1 a2 a3 a4 (0 : Int32))) else (f_R_spoil_J26 fl th a1 a2 a3 a4))
def f_R_flash_J43 (fl : Nat → Int32) (th : Int32) (z0 : Int32) : Option (Int32 × Int32) := some (z0, th)
def f_R_flash_J38 (fl : Nat → Int32) (th : Int32) : Option (Int32 × Int32) := (f_R_fail th (1 : Int32)).bind fun (r40, th40) => f_R_flash_J43 fl th40 r40
def f_R_flash (fl : Nat → Int32) (th : Int32) (a1 : Int32) (a2 : Int32) (a3 : Int32) : Option (Int32 × Int32) := (f_R_isPage a1 a2).bind fun r7 => if r7 = 0 then (f_R_flash_J38 fl (0 : Int32)) else ((f_R_out a3 (5 : Int32)).bind fun r15 => if r15 = 0 then (if (((5 : Int32) * (((4 : Int32) * a1) + a2)) + a3) < 0 ∨ 80 ≤ (((5 : Int32) * (((4 : Int32) * a1) + a2)) + a3).toNatClampNeg then none else f_R_flash_J43 fl (0 : Int32) (fl (((5 : Int32) * (((4 : Int32) * a1) + a2)) + a3).toNatClampNeg)) else (f_R_flash_J38 fl (0 : Int32)))
def f_R_place_J30 (wh : Nat → Int32) (th : Int32) (z0 : Int32) : Option (Int32 × Int32) := some (z0, th)
def f_R_place (wh : Nat → Int32) (th : Int32) (a1 : Int32) : Option (Int32 × Int32) := (f_R_out a1 (8 : Int32)).bind fun r8 => if r8 = 0 then (if a1 < 0 ∨ 8 ≤ a1.toNatClampNeg then none else f_R_place_J30 wh (0 : Int32) ((wh a1.toNatClampNeg) - (1 : Int32))) else ((f_R_fail (0 : Int32) (1 : Int32)).bind fun (r16, th16) => f_R_place_J30 wh th16 r16)
def f_R_state_J31 (us : Nat → Int32) (th : Int32) (z0 : Int32) : Option (Int32 × Int32) := some (z0, th)
def f_R_state (us : Nat → Int32) (th : Int32) (a1 : Int32) (a2 : Int32) : Option (Int32 × Int32) := (f_R_isPage a1 a2).bind fun r7 => if r7 = 0 then ((f_R_fail (0 : Int32) (1 : Int32)).bind fun (r28, th28) => f_R_state_J31 us th28 r28) else (if (((4 : Int32) * a1) + a2) < 0 ∨ 16 ≤ (((4 : Int32) * a1) + a2).toNatClampNeg then none else f_R_state_J31 us (0 : Int32) (us (((4 : Int32) * a1) + a2).toNatClampNeg))
def f_R_wear_J27 (we : Nat → Int32) (th : Int32) (z0 : Int32) : Option (Int32 × Int32) := some (z0, th)
def f_R_wear (we : Nat → Int32) (th : Int32) (a1 : Int32) : Option (Int32 × Int32) := (f_R_out a1 (4 : Int32)).bind fun r7 => if r7 = 0 then (if a1 < 0 ∨ 4 ≤ a1.toNatClampNeg then none else f_R_wear_J27 we (0 : Int32) (we a1.toNatClampNeg)) else ((f_R_fail (0 : Int32) (1 : Int32)).bind fun (r15, th15) => f_R_wear_J27 we th15 r15)
def f_R_serial (th : Int32) (nx : Int32) : Option (Int32 × Int32) := some (nx, (0 : Int32))
def x_F_requireLogicalPage_J10 : Option (Nat) := some 0
def x_F_requireLogicalPage (a1 : Int32) : Option (Nat) := if a1 < 0 then (x_F_requireLogicalPage_J10 ) else (if a1 < (8 : Int32) then (none) else (x_F_requireLogicalPage_J10 ))
def x_F_requireBlock_J9 : Option (Nat) := some 0
def x_F_requireBlock (a1 : Int32) : Option (Nat) := if a1 < 0 then (x_F_requireBlock_J9 ) else (if a1 < (4 : Int32) then (none) else (x_F_requireBlock_J9 ))
def x_F_requirePageOfBlock_J9 : Option (Nat) := some 0
def x_F_requirePageOfBlock (a1 : Int32) : Option (Nat) := if a1 < 0 then (x_F_requirePageOfBlock_J9 ) else (if a1 < (4 : Int32) then (none) else (x_F_requirePageOfBlock_J9 ))
def x_F_requireWord_J17 : Option (Nat) := some 0
def x_F_requireWord (a1 : Int32) (a2 : Int32) (a3 : Int32) : Option (Nat) := (x_F_requireBlock a1).elim ((f_F_requireBlock a1).bind fun _ => (x_F_requirePageOfBlock a2).elim ((f_F_requirePageOfBlock a2).bind fun _ => if a3 < 0 then (x_F_requireWord_J17 ) else (if a3 < (5 : Int32) then (none) else (x_F_requireWord_J17 ))) some) some
def x_F_encode_J10 : Option (Nat) := some 0
def x_F_encode (a1 : Int32) : Option (Nat) := if a1 < 0 then (x_F_encode_J10 ) else (if a1 ≤ (65535 : Int32) then ((f_C_codewordOf a1).bind fun r21 => none) else (x_F_encode_J10 ))
def x_F_decode (a1 : Int32) : Option (Nat) := if 0 ≤ a1 then ((f_C_mend a1).bind fun r15 => if r15 = (-1 : Int32) then (some 2) else ((f_U_bitCount (a1 ^^^ r15)).bind fun r38 => (f_C_dataOf r15).bind fun r45 => none)) else (some 0)
def x_F_write_J55 (rc : (Nat → Int32) → (Nat → Int32) → (Nat → Int32) → (Nat → Int32) → Int32 → Int32 → Int64 → Int32 → Option (Nat)) (st : Nat → Int32) (pl : Nat → Int32) (wd : Nat → Int32) (er : Nat → Int32) (nx : Int32) (v1 : Int32) (v2 : Int64) : Option (Nat) := none
def x_F_write_H : Nat → (Nat → Int32) → (Nat → Int32) → (Nat → Int32) → (Nat → Int32) → Int32 → Int32 → Int64 → Int32 → Option (Nat)
  | 0, _, _, _, _, _, _, _, _ => none
  | n + 1, st, pl, wd, er, nx, v1, v2, v4 => if (16 : Int32) ≤ v4 then (x_F_write_J55 (x_F_write_H n) st pl wd er nx v1 v2) else ((f_F_leavesBlockFree st).bind fun r15 => if r15 = 0 then ((f_F_blockToClean st er).bind fun r22 => if r22 = (-1 : Int32) then (some 1) else (none)) else (x_F_write_J55 (x_F_write_H n) st pl wd er nx v1 v2))
def x_F_write (st : Nat → Int32) (pl : Nat → Int32) (wd : Nat → Int32) (er : Nat → Int32) (nx : Int32) (a1 : Int32) (a2 : Int64) : Option (Nat) := (x_F_requireLogicalPage a1).elim ((f_F_requireLogicalPage a1).bind fun _ => x_F_write_H 100 st pl wd er nx a1 a2 (0 : Int32)) some
def x_F_read (pl : Nat → Int32) (wd : Nat → Int32) (a1 : Int32) : Option (Nat) := (x_F_requireLogicalPage a1).elim ((f_F_requireLogicalPage a1).bind fun _ => if a1 < 0 ∨ 8 ≤ a1.toNatClampNeg then none else if (pl a1.toNatClampNeg) = (-1 : Int32) then (some 1) else ((f_M_isReadable wd (pl a1.toNatClampNeg)).bind fun r31 => if r31 = 0 then (some 2) else ((f_M_contentAt wd (pl a1.toNatClampNeg)).bind fun r52 => none))) some
def x_F_trim_J19 (pl : Nat → Int32) (v1 : Int32) (z0 : Int32) : Option (Nat) := none
def x_F_trim (pl : Nat → Int32) (a1 : Int32) : Option (Nat) := (x_F_requireLogicalPage a1).elim ((f_F_requireLogicalPage a1).bind fun _ => if a1 < 0 ∨ 8 ≤ a1.toNatClampNeg then none else if (pl a1.toNatClampNeg) = (-1 : Int32) then (x_F_trim_J19 pl a1 (0 : Int32)) else (x_F_trim_J19 pl a1 (1 : Int32))) some
def x_F_spoil (wd : Nat → Int32) (a1 : Int32) (a2 : Int32) (a3 : Int32) (a4 : Int32) : Option (Nat) := (x_F_requireWord a1 a2 a3).elim ((f_F_requireWord a1 a2 a3).bind fun _ => if 0 ≤ a4 then ((f_F_placeOf a1 a2).bind fun r27 => none) else (some 0)) some
def x_F_flash (wd : Nat → Int32) (a1 : Int32) (a2 : Int32) (a3 : Int32) : Option (Nat) := (x_F_requireWord a1 a2 a3).elim ((f_F_requireWord a1 a2 a3).bind fun _ => (f_F_placeOf a1 a2).bind fun r12 => (f_M_wordAt wd r12 a3).bind fun r16 => none) some
def x_F_clean (st : Nat → Int32) (pl : Nat → Int32) (wd : Nat → Int32) (er : Nat → Int32) (nx : Int32) : Option (Nat) := (f_F_blockToClean st er).bind fun r1 => if r1 = (-1 : Int32) then (some 1) else (none)
def x_F_place (pl : Nat → Int32) (a1 : Int32) : Option (Nat) := (x_F_requireLogicalPage a1).elim ((f_F_requireLogicalPage a1).bind fun _ => if a1 < 0 ∨ 8 ≤ a1.toNatClampNeg then none else none) some
def x_F_state (st : Nat → Int32) (a1 : Int32) (a2 : Int32) : Option (Nat) := (x_F_requireBlock a1).elim ((f_F_requireBlock a1).bind fun _ => (x_F_requirePageOfBlock a2).elim ((f_F_requirePageOfBlock a2).bind fun _ => (f_F_placeOf a1 a2).bind fun r14 => if r14 < 0 ∨ 16 ≤ r14.toNatClampNeg then none else none) some) some
def x_F_wear (er : Nat → Int32) (a1 : Int32) : Option (Nat) := (x_F_requireBlock a1).elim ((f_F_requireBlock a1).bind fun _ => (f_M_erasuresOf er a1).bind fun r9 => none) some
end
section
abbrev rm_U_bitCount : Room := { frames := 0, cells := 0, slots := 0, locals := 0 }
set_option maxHeartbeats 4000000 in
set_option maxRecDepth 100000 in
theorem c_U_bitCount (l : Launch) (a1 : Int32) (r : Int32)  (hF : f_U_bitCount a1 = some r) : Met l y_U_bitCount ws_U_bitCount rm_U_bitCount (va_Pc [.int a1] (fun _ => True)) (vp_Si (fun z => r = z)) 0 0 (fun _ => False) := by
  refine va_MetF (cc := b_U_bitCount) (maxL := 1) (ret := some .int) (by decide +kernel) rfl ?_
  intro p e s m args below meth c s₁ B hml hv
  obtain ⟨hargs, -⟩ := hv
  have hx := B.exec
  have hb := B.bytes
  have hr := B.returns
  have hts := atoms_spec (ws := ws_U_bitCount) B.pre
  have hown : s.vm.findClass "java/lang/Integer" = some m.cls := findClass_of_methodNamed B.named
  have hlocks := B.notSynchronized
  have w0 := hts (.constant "java/lang/Integer" 265 (1431655765 : Int32)) (by decide +kernel)
  have w1 := hts (.constant "java/lang/Integer" 266 (858993459 : Int32)) (by decide +kernel)
  have w2 := hts (.constant "java/lang/Integer" 267 (252645135 : Int32)) (by decide +kernel)
  have hl := lv_entry ([.int a1]) (n := 1) (Nat.le_of_ble_eq_true rfl)
  have hen : entryFrame m args 1 = _ := (congrArg (fun z => entryFrame m z 1) hargs).trans (lg_entry_eq m ([.int a1]) 1)
  refine W.eq hen ?_
  clear hen
  generalize (lg_sl ([.int a1]) ++ List.replicate (1 - (lg_sl ([.int a1])).length) Slot.unset).toArray = ls at hl ⊢
  have hl : lv_has ls 1 [(0, .int a1)] := hl
  have hF : (some ((((((((a1 - (((a1.toUInt32 >>> ((1 : Int32).toUInt32 &&& Int32.toUInt32 31)).toInt32) &&& (1431655765 : Int32))) &&& (858993459 : Int32)) + ((((a1 - (((a1.toUInt32 >>> ((1 : Int32).toUInt32 &&& Int32.toUInt32 31)).toInt32) &&& (1431655765 : Int32))).toUInt32 >>> ((2 : Int32).toUInt32 &&& Int32.toUInt32 31)).toInt32) &&& (858993459 : Int32))) + (((((a1 - (((a1.toUInt32 >>> ((1 : Int32).toUInt32 &&& Int32.toUInt32 31)).toInt32) &&& (1431655765 : Int32))) &&& (858993459 : Int32)) + ((((a1 - (((a1.toUInt32 >>> ((1 : Int32).toUInt32 &&& Int32.toUInt32 31)).toInt32) &&& (1431655765 : Int32))).toUInt32 >>> ((2 : Int32).toUInt32 &&& Int32.toUInt32 31)).toInt32) &&& (858993459 : Int32))).toUInt32 >>> ((4 : Int32).toUInt32 &&& Int32.toUInt32 31)).toInt32)) &&& (252645135 : Int32)) + (((((((a1 - (((a1.toUInt32 >>> ((1 : Int32).toUInt32 &&& Int32.toUInt32 31)).toInt32) &&& (1431655765 : Int32))) &&& (858993459 : Int32)) + ((((a1 - (((a1.toUInt32 >>> ((1 : Int32).toUInt32 &&& Int32.toUInt32 31)).toInt32) &&& (1431655765 : Int32))).toUInt32 >>> ((2 : Int32).toUInt32 &&& Int32.toUInt32 31)).toInt32) &&& (858993459 : Int32))) + (((((a1 - (((a1.toUInt32 >>> ((1 : Int32).toUInt32 &&& Int32.toUInt32 31)).toInt32) &&& (1431655765 : Int32))) &&& (858993459 : Int32)) + ((((a1 - (((a1.toUInt32 >>> ((1 : Int32).toUInt32 &&& Int32.toUInt32 31)).toInt32) &&& (1431655765 : Int32))).toUInt32 >>> ((2 : Int32).toUInt32 &&& Int32.toUInt32 31)).toInt32) &&& (858993459 : Int32))).toUInt32 >>> ((4 : Int32).toUInt32 &&& Int32.toUInt32 31)).toInt32)) &&& (252645135 : Int32)).toUInt32 >>> ((8 : Int32).toUInt32 &&& Int32.toUInt32 31)).toInt32)) + ((((((((a1 - (((a1.toUInt32 >>> ((1 : Int32).toUInt32 &&& Int32.toUInt32 31)).toInt32) &&& (1431655765 : Int32))) &&& (858993459 : Int32)) + ((((a1 - (((a1.toUInt32 >>> ((1 : Int32).toUInt32 &&& Int32.toUInt32 31)).toInt32) &&& (1431655765 : Int32))).toUInt32 >>> ((2 : Int32).toUInt32 &&& Int32.toUInt32 31)).toInt32) &&& (858993459 : Int32))) + (((((a1 - (((a1.toUInt32 >>> ((1 : Int32).toUInt32 &&& Int32.toUInt32 31)).toInt32) &&& (1431655765 : Int32))) &&& (858993459 : Int32)) + ((((a1 - (((a1.toUInt32 >>> ((1 : Int32).toUInt32 &&& Int32.toUInt32 31)).toInt32) &&& (1431655765 : Int32))).toUInt32 >>> ((2 : Int32).toUInt32 &&& Int32.toUInt32 31)).toInt32) &&& (858993459 : Int32))).toUInt32 >>> ((4 : Int32).toUInt32 &&& Int32.toUInt32 31)).toInt32)) &&& (252645135 : Int32)) + (((((((a1 - (((a1.toUInt32 >>> ((1 : Int32).toUInt32 &&& Int32.toUInt32 31)).toInt32) &&& (1431655765 : Int32))) &&& (858993459 : Int32)) + ((((a1 - (((a1.toUInt32 >>> ((1 : Int32).toUInt32 &&& Int32.toUInt32 31)).toInt32) &&& (1431655765 : Int32))).toUInt32 >>> ((2 : Int32).toUInt32 &&& Int32.toUInt32 31)).toInt32) &&& (858993459 : Int32))) + (((((a1 - (((a1.toUInt32 >>> ((1 : Int32).toUInt32 &&& Int32.toUInt32 31)).toInt32) &&& (1431655765 : Int32))) &&& (858993459 : Int32)) + ((((a1 - (((a1.toUInt32 >>> ((1 : Int32).toUInt32 &&& Int32.toUInt32 31)).toInt32) &&& (1431655765 : Int32))).toUInt32 >>> ((2 : Int32).toUInt32 &&& Int32.toUInt32 31)).toInt32) &&& (858993459 : Int32))).toUInt32 >>> ((4 : Int32).toUInt32 &&& Int32.toUInt32 31)).toInt32)) &&& (252645135 : Int32)).toUInt32 >>> ((8 : Int32).toUInt32 &&& Int32.toUInt32 31)).toInt32)).toUInt32 >>> ((16 : Int32).toUInt32 &&& Int32.toUInt32 31)).toInt32)) &&& (63 : Int32))) = some r := hF
  refine lv_iload_n hx hb d_U_bitCount_0 rfl (lv_at hl 0 rfl) ?_
  refine lv_iload_n hx hb d_U_bitCount_1 rfl (lv_at hl 0 rfl) ?_
  refine lv_iconst (v := (1 : Int32)) hx hb d_U_bitCount_2 (by decide) ?_
  refine lv_iushr hx hb d_U_bitCount_3 rfl ?_
  refine lv_ldcw hx hb hown w0 d_U_bitCount_4 ?_
  refine lv_iand hx hb d_U_bitCount_7 ?_
  refine lv_isub hx hb d_U_bitCount_8 ?_
  refine lv_istore_n hx hb d_U_bitCount_9 rfl hl (by decide) rfl (fun ls hl => ?_)
  have hl : lv_has ls 1 [(0, .int (a1 - (((a1.toUInt32 >>> ((1 : Int32).toUInt32 &&& Int32.toUInt32 31)).toInt32) &&& (1431655765 : Int32))))] := hl
  refine lv_iload_n hx hb d_U_bitCount_10 rfl (lv_at hl 0 rfl) ?_
  refine lv_ldcw hx hb hown w1 d_U_bitCount_11 ?_
  refine lv_iand hx hb d_U_bitCount_14 ?_
  refine lv_iload_n hx hb d_U_bitCount_15 rfl (lv_at hl 0 rfl) ?_
  refine lv_iconst (v := (2 : Int32)) hx hb d_U_bitCount_16 (by decide) ?_
  refine lv_iushr hx hb d_U_bitCount_17 rfl ?_
  refine lv_ldcw hx hb hown w1 d_U_bitCount_18 ?_
  refine lv_iand hx hb d_U_bitCount_21 ?_
  refine lv_iadd hx hb d_U_bitCount_22 ?_
  refine lv_istore_n hx hb d_U_bitCount_23 rfl hl (by decide) rfl (fun ls hl => ?_)
  have hl : lv_has ls 1 [(0, .int (((a1 - (((a1.toUInt32 >>> ((1 : Int32).toUInt32 &&& Int32.toUInt32 31)).toInt32) &&& (1431655765 : Int32))) &&& (858993459 : Int32)) + ((((a1 - (((a1.toUInt32 >>> ((1 : Int32).toUInt32 &&& Int32.toUInt32 31)).toInt32) &&& (1431655765 : Int32))).toUInt32 >>> ((2 : Int32).toUInt32 &&& Int32.toUInt32 31)).toInt32) &&& (858993459 : Int32))))] := hl
  refine lv_iload_n hx hb d_U_bitCount_24 rfl (lv_at hl 0 rfl) ?_
  refine lv_iload_n hx hb d_U_bitCount_25 rfl (lv_at hl 0 rfl) ?_
  refine lv_iconst (v := (4 : Int32)) hx hb d_U_bitCount_26 (by decide) ?_
  refine lv_iushr hx hb d_U_bitCount_27 rfl ?_
  refine lv_iadd hx hb d_U_bitCount_28 ?_
  refine lv_ldcw hx hb hown w2 d_U_bitCount_29 ?_
  refine lv_iand hx hb d_U_bitCount_32 ?_
  refine lv_istore_n hx hb d_U_bitCount_33 rfl hl (by decide) rfl (fun ls hl => ?_)
  have hl : lv_has ls 1 [(0, .int (((((a1 - (((a1.toUInt32 >>> ((1 : Int32).toUInt32 &&& Int32.toUInt32 31)).toInt32) &&& (1431655765 : Int32))) &&& (858993459 : Int32)) + ((((a1 - (((a1.toUInt32 >>> ((1 : Int32).toUInt32 &&& Int32.toUInt32 31)).toInt32) &&& (1431655765 : Int32))).toUInt32 >>> ((2 : Int32).toUInt32 &&& Int32.toUInt32 31)).toInt32) &&& (858993459 : Int32))) + (((((a1 - (((a1.toUInt32 >>> ((1 : Int32).toUInt32 &&& Int32.toUInt32 31)).toInt32) &&& (1431655765 : Int32))) &&& (858993459 : Int32)) + ((((a1 - (((a1.toUInt32 >>> ((1 : Int32).toUInt32 &&& Int32.toUInt32 31)).toInt32) &&& (1431655765 : Int32))).toUInt32 >>> ((2 : Int32).toUInt32 &&& Int32.toUInt32 31)).toInt32) &&& (858993459 : Int32))).toUInt32 >>> ((4 : Int32).toUInt32 &&& Int32.toUInt32 31)).toInt32)) &&& (252645135 : Int32)))] := hl
  refine lv_iload_n hx hb d_U_bitCount_34 rfl (lv_at hl 0 rfl) ?_
  refine lv_iload_n hx hb d_U_bitCount_35 rfl (lv_at hl 0 rfl) ?_
  refine lv_bipush (v := (8 : Int32)) hx hb d_U_bitCount_36 (by decide) ?_
  refine lv_iushr hx hb d_U_bitCount_38 rfl ?_
  refine lv_iadd hx hb d_U_bitCount_39 ?_
  refine lv_istore_n hx hb d_U_bitCount_40 rfl hl (by decide) rfl (fun ls hl => ?_)
  have hl : lv_has ls 1 [(0, .int ((((((a1 - (((a1.toUInt32 >>> ((1 : Int32).toUInt32 &&& Int32.toUInt32 31)).toInt32) &&& (1431655765 : Int32))) &&& (858993459 : Int32)) + ((((a1 - (((a1.toUInt32 >>> ((1 : Int32).toUInt32 &&& Int32.toUInt32 31)).toInt32) &&& (1431655765 : Int32))).toUInt32 >>> ((2 : Int32).toUInt32 &&& Int32.toUInt32 31)).toInt32) &&& (858993459 : Int32))) + (((((a1 - (((a1.toUInt32 >>> ((1 : Int32).toUInt32 &&& Int32.toUInt32 31)).toInt32) &&& (1431655765 : Int32))) &&& (858993459 : Int32)) + ((((a1 - (((a1.toUInt32 >>> ((1 : Int32).toUInt32 &&& Int32.toUInt32 31)).toInt32) &&& (1431655765 : Int32))).toUInt32 >>> ((2 : Int32).toUInt32 &&& Int32.toUInt32 31)).toInt32) &&& (858993459 : Int32))).toUInt32 >>> ((4 : Int32).toUInt32 &&& Int32.toUInt32 31)).toInt32)) &&& (252645135 : Int32)) + (((((((a1 - (((a1.toUInt32 >>> ((1 : Int32).toUInt32 &&& Int32.toUInt32 31)).toInt32) &&& (1431655765 : Int32))) &&& (858993459 : Int32)) + ((((a1 - (((a1.toUInt32 >>> ((1 : Int32).toUInt32 &&& Int32.toUInt32 31)).toInt32) &&& (1431655765 : Int32))).toUInt32 >>> ((2 : Int32).toUInt32 &&& Int32.toUInt32 31)).toInt32) &&& (858993459 : Int32))) + (((((a1 - (((a1.toUInt32 >>> ((1 : Int32).toUInt32 &&& Int32.toUInt32 31)).toInt32) &&& (1431655765 : Int32))) &&& (858993459 : Int32)) + ((((a1 - (((a1.toUInt32 >>> ((1 : Int32).toUInt32 &&& Int32.toUInt32 31)).toInt32) &&& (1431655765 : Int32))).toUInt32 >>> ((2 : Int32).toUInt32 &&& Int32.toUInt32 31)).toInt32) &&& (858993459 : Int32))).toUInt32 >>> ((4 : Int32).toUInt32 &&& Int32.toUInt32 31)).toInt32)) &&& (252645135 : Int32)).toUInt32 >>> ((8 : Int32).toUInt32 &&& Int32.toUInt32 31)).toInt32)))] := hl
  refine lv_iload_n hx hb d_U_bitCount_41 rfl (lv_at hl 0 rfl) ?_
  refine lv_iload_n hx hb d_U_bitCount_42 rfl (lv_at hl 0 rfl) ?_
  refine lv_bipush (v := (16 : Int32)) hx hb d_U_bitCount_43 (by decide) ?_
  refine lv_iushr hx hb d_U_bitCount_45 rfl ?_
  refine lv_iadd hx hb d_U_bitCount_46 ?_
  refine lv_istore_n hx hb d_U_bitCount_47 rfl hl (by decide) rfl (fun ls hl => ?_)
  have hl : lv_has ls 1 [(0, .int (((((((a1 - (((a1.toUInt32 >>> ((1 : Int32).toUInt32 &&& Int32.toUInt32 31)).toInt32) &&& (1431655765 : Int32))) &&& (858993459 : Int32)) + ((((a1 - (((a1.toUInt32 >>> ((1 : Int32).toUInt32 &&& Int32.toUInt32 31)).toInt32) &&& (1431655765 : Int32))).toUInt32 >>> ((2 : Int32).toUInt32 &&& Int32.toUInt32 31)).toInt32) &&& (858993459 : Int32))) + (((((a1 - (((a1.toUInt32 >>> ((1 : Int32).toUInt32 &&& Int32.toUInt32 31)).toInt32) &&& (1431655765 : Int32))) &&& (858993459 : Int32)) + ((((a1 - (((a1.toUInt32 >>> ((1 : Int32).toUInt32 &&& Int32.toUInt32 31)).toInt32) &&& (1431655765 : Int32))).toUInt32 >>> ((2 : Int32).toUInt32 &&& Int32.toUInt32 31)).toInt32) &&& (858993459 : Int32))).toUInt32 >>> ((4 : Int32).toUInt32 &&& Int32.toUInt32 31)).toInt32)) &&& (252645135 : Int32)) + (((((((a1 - (((a1.toUInt32 >>> ((1 : Int32).toUInt32 &&& Int32.toUInt32 31)).toInt32) &&& (1431655765 : Int32))) &&& (858993459 : Int32)) + ((((a1 - (((a1.toUInt32 >>> ((1 : Int32).toUInt32 &&& Int32.toUInt32 31)).toInt32) &&& (1431655765 : Int32))).toUInt32 >>> ((2 : Int32).toUInt32 &&& Int32.toUInt32 31)).toInt32) &&& (858993459 : Int32))) + (((((a1 - (((a1.toUInt32 >>> ((1 : Int32).toUInt32 &&& Int32.toUInt32 31)).toInt32) &&& (1431655765 : Int32))) &&& (858993459 : Int32)) + ((((a1 - (((a1.toUInt32 >>> ((1 : Int32).toUInt32 &&& Int32.toUInt32 31)).toInt32) &&& (1431655765 : Int32))).toUInt32 >>> ((2 : Int32).toUInt32 &&& Int32.toUInt32 31)).toInt32) &&& (858993459 : Int32))).toUInt32 >>> ((4 : Int32).toUInt32 &&& Int32.toUInt32 31)).toInt32)) &&& (252645135 : Int32)).toUInt32 >>> ((8 : Int32).toUInt32 &&& Int32.toUInt32 31)).toInt32)) + ((((((((a1 - (((a1.toUInt32 >>> ((1 : Int32).toUInt32 &&& Int32.toUInt32 31)).toInt32) &&& (1431655765 : Int32))) &&& (858993459 : Int32)) + ((((a1 - (((a1.toUInt32 >>> ((1 : Int32).toUInt32 &&& Int32.toUInt32 31)).toInt32) &&& (1431655765 : Int32))).toUInt32 >>> ((2 : Int32).toUInt32 &&& Int32.toUInt32 31)).toInt32) &&& (858993459 : Int32))) + (((((a1 - (((a1.toUInt32 >>> ((1 : Int32).toUInt32 &&& Int32.toUInt32 31)).toInt32) &&& (1431655765 : Int32))) &&& (858993459 : Int32)) + ((((a1 - (((a1.toUInt32 >>> ((1 : Int32).toUInt32 &&& Int32.toUInt32 31)).toInt32) &&& (1431655765 : Int32))).toUInt32 >>> ((2 : Int32).toUInt32 &&& Int32.toUInt32 31)).toInt32) &&& (858993459 : Int32))).toUInt32 >>> ((4 : Int32).toUInt32 &&& Int32.toUInt32 31)).toInt32)) &&& (252645135 : Int32)) + (((((((a1 - (((a1.toUInt32 >>> ((1 : Int32).toUInt32 &&& Int32.toUInt32 31)).toInt32) &&& (1431655765 : Int32))) &&& (858993459 : Int32)) + ((((a1 - (((a1.toUInt32 >>> ((1 : Int32).toUInt32 &&& Int32.toUInt32 31)).toInt32) &&& (1431655765 : Int32))).toUInt32 >>> ((2 : Int32).toUInt32 &&& Int32.toUInt32 31)).toInt32) &&& (858993459 : Int32))) + (((((a1 - (((a1.toUInt32 >>> ((1 : Int32).toUInt32 &&& Int32.toUInt32 31)).toInt32) &&& (1431655765 : Int32))) &&& (858993459 : Int32)) + ((((a1 - (((a1.toUInt32 >>> ((1 : Int32).toUInt32 &&& Int32.toUInt32 31)).toInt32) &&& (1431655765 : Int32))).toUInt32 >>> ((2 : Int32).toUInt32 &&& Int32.toUInt32 31)).toInt32) &&& (858993459 : Int32))).toUInt32 >>> ((4 : Int32).toUInt32 &&& Int32.toUInt32 31)).toInt32)) &&& (252645135 : Int32)).toUInt32 >>> ((8 : Int32).toUInt32 &&& Int32.toUInt32 31)).toInt32)).toUInt32 >>> ((16 : Int32).toUInt32 &&& Int32.toUInt32 31)).toInt32)))] := hl
  refine lv_iload_n hx hb d_U_bitCount_48 rfl (lv_at hl 0 rfl) ?_
  refine lv_bipush (v := (63 : Int32)) hx hb d_U_bitCount_49 (by decide) ?_
  refine lv_iand hx hb d_U_bitCount_51 ?_
  exact W.iret hx hb hr (fun t ht hW => ⟨_, rfl, (Option.some.inj hF).symm, ht⟩) (fun q h => by cases h) d_U_bitCount_52
abbrev rm_U_floorMod : Room := { frames := 0, cells := 0, slots := 0, locals := 0 }
set_option maxHeartbeats 4000000 in
set_option maxRecDepth 100000 in
theorem c_U_floorMod (l : Launch) (a1 : Int32) (a2 : Int32) (r : Int32)  (hF : f_U_floorMod a1 a2 = some r) : Met l y_U_floorMod ws_U_floorMod rm_U_floorMod (va_Pc [.int a1, .int a2] (fun _ => True)) (vp_Si (fun z => r = z)) 0 0 (fun _ => False) := by
  refine va_MetF (cc := b_U_floorMod) (maxL := 3) (ret := some .int) (by decide +kernel) rfl ?_
  intro p e s m args below meth c s₁ B hml hv
  obtain ⟨hargs, -⟩ := hv
  have hx := B.exec
  have hb := B.bytes
  have hr := B.returns
  have hts := atoms_spec (ws := ws_U_floorMod) B.pre
  have hown : s.vm.findClass "java/lang/Math" = some m.cls := findClass_of_methodNamed B.named
  have hlocks := B.notSynchronized
  have hl := lv_entry ([.int a1, .int a2]) (n := 3) (Nat.le_of_ble_eq_true rfl)
  have hen : entryFrame m args 3 = _ := (congrArg (fun z => entryFrame m z 3) hargs).trans (lg_entry_eq m ([.int a1, .int a2]) 3)
  refine W.eq hen ?_
  clear hen
  generalize (lg_sl ([.int a1, .int a2]) ++ List.replicate (3 - (lg_sl ([.int a1, .int a2])).length) Slot.unset).toArray = ls at hl ⊢
  have hl : lv_has ls 3 [(0, .int a1), (1, .int a2)] := hl
  have J18 : ∀ (ls : Array Slot) (v2 : Int32), lv_has ls 3 [(2, .int v2)] → f_U_floorMod_J18 v2 = some r → W p l e (headSpec ws_U_floorMod rm_U_floorMod).room s m args below meth c s.heap [] 0 0 (MQ below (vp_Si (fun z => r = z)) args s 0 0 (fun _ => False)) (F0 m 18 ls []) := by
    intro ls v2 hl hF
    have hF : (some v2) = some r := hF
    refine lv_iload_n hx hb d_U_floorMod_18 rfl (lv_at hl 0 rfl) ?_
    exact W.iret hx hb hr (fun t ht hW => ⟨_, rfl, (Option.some.inj hF).symm, ht⟩) (fun q h => by cases h) d_U_floorMod_19
  have hF : (if a2 = 0 then none else if 0 ≤ (a1 ^^^ a2) then (f_U_floorMod_J18 (a1 - a1 / a2 * a2)) else (if (a1 - a1 / a2 * a2) = 0 then (f_U_floorMod_J18 (a1 - a1 / a2 * a2)) else (some ((a1 - a1 / a2 * a2) + a2)))) = some r := hF
  refine lv_iload_n hx hb d_U_floorMod_0 rfl (lv_at hl 0 rfl) ?_
  refine lv_iload_n hx hb d_U_floorMod_1 rfl (lv_at hl 1 rfl) ?_
  obtain ⟨hz2, hF⟩ := tx_g hF
  refine lv_irem hx hb d_U_floorMod_2 hz2 ?_
  refine lv_istore_n hx hb d_U_floorMod_3 rfl hl (by decide) rfl (fun ls hl => ?_)
  have hl : lv_has ls 3 [(2, .int (a1 - a1 / a2 * a2)), (0, .int a1), (1, .int a2)] := hl
  refine lv_iload_n hx hb d_U_floorMod_4 rfl (lv_at hl 1 rfl) ?_
  refine lv_iload_n hx hb d_U_floorMod_5 rfl (lv_at hl 2 rfl) ?_
  refine lv_ixor hx hb d_U_floorMod_6 ?_
  refine lv_if_ge hx hb d_U_floorMod_7 (tgt := 18) (by decide) (fun h7 => ?_) (fun h7 => ?_)
  · have hF := tx_t h7 hF
    exact J18 _ (a1 - a1 / a2 * a2) (lv_sub hl [0] rfl) hF
  · have hF := tx_f h7 hF
    refine lv_iload_n hx hb d_U_floorMod_10 rfl (lv_at hl 0 rfl) ?_
    refine lv_if_eq hx hb d_U_floorMod_11 (tgt := 18) (by decide) (fun h11 => ?_) (fun h11 => ?_)
    · have hF := tx_t h11 hF
      exact J18 _ (a1 - a1 / a2 * a2) (lv_sub hl [0] rfl) hF
    · have hF := tx_f h11 hF
      refine lv_iload_n hx hb d_U_floorMod_14 rfl (lv_at hl 0 rfl) ?_
      refine lv_iload_n hx hb d_U_floorMod_15 rfl (lv_at hl 2 rfl) ?_
      refine lv_iadd hx hb d_U_floorMod_16 ?_
      exact W.iret hx hb hr (fun t ht hW => ⟨_, rfl, (Option.some.inj hF).symm, ht⟩) (fun q h => by cases h) d_U_floorMod_17
abbrev rm_C_remainder : Room := { frames := 0, cells := 0, slots := 0, locals := 0 }
set_option maxHeartbeats 4000000 in
set_option maxRecDepth 100000 in
theorem c_C_remainder (l : Launch) (a1 : Int32) (r : Int32)  (hF : f_C_remainder a1 = some r) : Met l y_C_remainder ws_C_remainder rm_C_remainder (va_Pc [.int a1] (fun _ => True)) (vp_Si (fun z => r = z)) 0 0 (fun _ => False) := by
  refine Met.ofW (cc := b_C_remainder) (maxL := 3) (ret := some .int) (by decide +kernel) rfl ?_
  intro p e s m args below meth c s₁ B hml hv
  obtain ⟨hargs, -⟩ := hv
  have hx := B.exec
  have hb := B.bytes
  have hr := B.returns
  have hts := atoms_spec (ws := ws_C_remainder) B.pre
  have hown : s.vm.findClass "FlashStore$Code" = some m.cls := findClass_of_methodNamed B.named
  have hlocks := B.notSynchronized
  have w0 := hts (.constant "FlashStore$Code" 30 (36783 : Int32)) (by decide +kernel)
  have hl := lv_entry ([.int a1]) (n := 3) (Nat.le_of_ble_eq_true rfl)
  have hen : entryFrame m args 3 = _ := (congrArg (fun z => entryFrame m z 3) hargs).trans (lg_entry_eq m ([.int a1]) 3)
  refine W.eq hen ?_
  clear hen
  generalize (lg_sl ([.int a1]) ++ List.replicate (3 - (lg_sl ([.int a1])).length) Slot.unset).toArray = ls at hl ⊢
  have hl : lv_has ls 3 [(0, .int a1)] := hl
  have J29 : ∀ (rc : Int32 → Int32 → Option (Int32)) (hrec0 : ∀ (ls : Array Slot) (v1 : Int32) (v2 : Int32), lv_has ls 3 [(1, .int v1), (2, .int v2)] → rc v1 v2 = some r → W p l e (headSpec ws_C_remainder rm_C_remainder).room s m args below meth c s.heap [] 0 0 (MQ below (vp_Si (fun z => r = z)) args s 0 0 (fun _ => False)) (F0 m 5 ls [])), ∀ (ls : Array Slot) (v1 : Int32) (v2 : Int32), lv_has ls 3 [(1, .int v1), (2, .int v2)] → f_C_remainder_J29 rc v1 v2 = some r → W p l e (headSpec ws_C_remainder rm_C_remainder).room s m args below meth c s.heap [] 0 0 (MQ below (vp_Si (fun z => r = z)) args s 0 0 (fun _ => False)) (F0 m 29 ls []) := by
    intro rc hrec0
    intro ls v1 v2 hl hF
    have hF : (rc v1 (v2 + (-1 : Int32))) = some r := hF
    refine lv_iinc (k := 1) (v := (v2 + (-1 : Int32))) hx hb d_C_remainder_29 hl rfl rfl (by decide) rfl (fun ls hl => ?_)
    have hl : lv_has ls 3 [(2, .int (v2 + (-1 : Int32))), (1, .int v1)] := hl
    refine lv_goto hx hb d_C_remainder_32 (tgt := 5) (by decide) ?_
    exact hrec0 _ v1 (v2 + (-1 : Int32)) (lv_sub hl [1, 0] rfl) hF
  have LH : ∀ n : Nat, (∀ (ls : Array Slot) (v1 : Int32) (v2 : Int32), lv_has ls 3 [(1, .int v1), (2, .int v2)] → f_C_remainder_H n v1 v2 = some r → W p l e (headSpec ws_C_remainder rm_C_remainder).room s m args below meth c s.heap [] 0 0 (MQ below (vp_Si (fun z => r = z)) args s 0 0 (fun _ => False)) (F0 m 5 ls [])) := by
    intro n
    induction n with
    | zero =>
      exact (by intro ls v1 v2 hl hF; have hF : (none : Option (Int32)) = _ := hF; cases hF)
    | succ n ih =>
      have hrec0 := ih
      intro ls v1 v2 hl hF
      have hF : (if v2 < (15 : Int32) then (some v1) else (if (v1 &&& ((1 : Int32) <<< (v2 &&& 31))) = 0 then (f_C_remainder_J29 (f_C_remainder_H n) v1 v2) else (f_C_remainder_J29 (f_C_remainder_H n) (v1 ^^^ ((36783 : Int32) <<< ((v2 - (15 : Int32)) &&& 31))) v2))) = some r := hF
      refine lv_iload_n hx hb d_C_remainder_5 rfl (lv_at hl 1 rfl) ?_
      refine lv_bipush (v := (15 : Int32)) hx hb d_C_remainder_6 (by decide) ?_
      refine lv_icmp_lt hx hb d_C_remainder_8 (tgt := 35) (by decide) (fun h8 => ?_) (fun h8 => ?_)
      · have hF := tx_t h8 hF
        refine lv_iload_n hx hb d_C_remainder_35 rfl (lv_at hl 0 rfl) ?_
        exact W.iret hx hb hr (fun t ht hW => ⟨_, rfl, (Option.some.inj hF).symm, ht⟩) (fun q h => by cases h) d_C_remainder_36
      · have hF := tx_f h8 hF
        refine lv_iload_n hx hb d_C_remainder_11 rfl (lv_at hl 0 rfl) ?_
        refine lv_iconst (v := (1 : Int32)) hx hb d_C_remainder_12 (by decide) ?_
        refine lv_iload_n hx hb d_C_remainder_13 rfl (lv_at hl 1 rfl) ?_
        refine lv_ishl hx hb d_C_remainder_14 ?_
        refine lv_iand hx hb d_C_remainder_15 ?_
        refine lv_if_eq hx hb d_C_remainder_16 (tgt := 29) (by decide) (fun h16 => ?_) (fun h16 => ?_)
        · have hF := tx_t h16 hF
          exact J29 _ hrec0 _ v1 v2 hl hF
        · have hF := tx_f h16 hF
          refine lv_iload_n hx hb d_C_remainder_19 rfl (lv_at hl 0 rfl) ?_
          refine lv_ldc hx hb hown w0 d_C_remainder_20 ?_
          refine lv_iload_n hx hb d_C_remainder_22 rfl (lv_at hl 1 rfl) ?_
          refine lv_bipush (v := (15 : Int32)) hx hb d_C_remainder_23 (by decide) ?_
          refine lv_isub hx hb d_C_remainder_25 ?_
          refine lv_ishl hx hb d_C_remainder_26 ?_
          refine lv_ixor hx hb d_C_remainder_27 ?_
          refine lv_istore_n hx hb d_C_remainder_28 rfl hl (by decide) rfl (fun ls hl => ?_)
          have hl : lv_has ls 3 [(1, .int (v1 ^^^ ((36783 : Int32) <<< ((v2 - (15 : Int32)) &&& 31)))), (2, .int v2)] := hl
          exact J29 _ hrec0 _ (v1 ^^^ ((36783 : Int32) <<< ((v2 - (15 : Int32)) &&& 31))) v2 hl hF
  obtain hrec0 := LH 100
  have hF : (f_C_remainder_H 100 a1 (30 : Int32)) = some r := hF
  refine lv_iload_n hx hb d_C_remainder_0 rfl (lv_at hl 0 rfl) ?_
  refine lv_istore_n hx hb d_C_remainder_1 rfl hl (by decide) rfl (fun ls hl => ?_)
  have hl : lv_has ls 3 [(1, .int a1), (0, .int a1)] := hl
  refine lv_bipush (v := (30 : Int32)) hx hb d_C_remainder_2 (by decide) ?_
  refine lv_istore_n hx hb d_C_remainder_4 rfl hl (by decide) rfl (fun ls hl => ?_)
  have hl : lv_has ls 3 [(2, .int (30 : Int32)), (1, .int a1), (0, .int a1)] := hl
  exact hrec0 _ a1 (30 : Int32) (lv_sub hl [1, 0] rfl) hF
abbrev rm_C_codewordOf : Room := { frames := 1, cells := 0, slots := 0, locals := 22 }
set_option maxHeartbeats 4000000 in
set_option maxRecDepth 100000 in
theorem c_C_codewordOf (l : Launch) (a1 : Int32) (r : Int32)  (hF : f_C_codewordOf a1 = some r) : Met l y_C_codewordOf ws_C_codewordOf rm_C_codewordOf (va_Pc [.int a1] (fun _ => True)) (vp_Si (fun z => r = z)) 0 0 (fun _ => False) := by
  refine Met.ofW (cc := b_C_codewordOf) (maxL := 2) (ret := some .int) (by decide +kernel) rfl ?_
  intro p e s m args below meth c s₁ B hml hv
  obtain ⟨hargs, -⟩ := hv
  have hx := B.exec
  have hb := B.bytes
  have hr := B.returns
  have hts := atoms_spec (ws := ws_C_codewordOf) B.pre
  have hown : s.vm.findClass "FlashStore$Code" = some m.cls := findClass_of_methodNamed B.named
  have hlocks := B.notSynchronized
  have hl := lv_entry ([.int a1]) (n := 2) (Nat.le_of_ble_eq_true rfl)
  have hen : entryFrame m args 2 = _ := (congrArg (fun z => entryFrame m z 2) hargs).trans (lg_entry_eq m ([.int a1]) 2)
  refine W.eq hen ?_
  clear hen
  generalize (lg_sl ([.int a1]) ++ List.replicate (2 - (lg_sl ([.int a1])).length) Slot.unset).toArray = ls at hl ⊢
  have hl : lv_has ls 2 [(0, .int a1)] := hl
  have hF : ((f_C_remainder (a1 <<< ((15 : Int32) &&& 31))).bind fun r7 => some ((a1 <<< ((15 : Int32) &&& 31)) ||| r7)) = some r := hF
  refine lv_iload_n hx hb d_C_codewordOf_0 rfl (lv_at hl 0 rfl) ?_
  refine lv_bipush (v := (15 : Int32)) hx hb d_C_codewordOf_1 (by decide) ?_
  refine lv_ishl hx hb d_C_codewordOf_3 ?_
  refine lv_istore_n hx hb d_C_codewordOf_4 rfl hl (by decide) rfl (fun ls hl => ?_)
  have hl : lv_has ls 2 [(1, .int (a1 <<< ((15 : Int32) &&& 31))), (0, .int a1)] := hl
  refine lv_iload_n hx hb d_C_codewordOf_5 rfl (lv_at hl 0 rfl) ?_
  refine lv_iload_n hx hb d_C_codewordOf_6 rfl (lv_at hl 0 rfl) ?_
  obtain ⟨r7, hc7, hF⟩ := tx_b hF
  refine vp_callSi (W.runS (As := [.int (a1 <<< ((15 : Int32) &&& 31))]) (rest := [.int (a1 <<< ((15 : Int32) &&& 31))]) ⟨hx, hb, hml, hown, hts⟩ (c_C_remainder l (a1 <<< ((15 : Int32) &&& 31)) r7 hc7) (va_cwS 1 hts (tg_S bq_1_86 bq_1_87 bq_1_9 bq_1_88) rfl rfl rfl (by decide +kernel) ⟨Nat.le_of_ble_eq_true rfl, Nat.le_of_ble_eq_true rfl⟩) ⟨tx_bl0, tx_pre0⟩ rfl rfl hl.1 rfl (lv_room (Nat.le_of_ble_eq_true rfl)) d_C_codewordOf_7 ⟨Nat.zero_le _, Nat.zero_le _⟩) (fun zz hz => ?_)
  subst hz
  refine lv_ior hx hb d_C_codewordOf_10 ?_
  exact W.iret hx hb hr (fun t ht hW => ⟨_, rfl, (Option.some.inj hF).symm, ht⟩) (fun q h => by cases h) d_C_codewordOf_11
abbrev rm_C_dataOf : Room := { frames := 0, cells := 0, slots := 0, locals := 0 }
set_option maxHeartbeats 4000000 in
set_option maxRecDepth 100000 in
theorem c_C_dataOf (l : Launch) (a1 : Int32) (r : Int32)  (hF : f_C_dataOf a1 = some r) : Met l y_C_dataOf ws_C_dataOf rm_C_dataOf (va_Pc [.int a1] (fun _ => True)) (vp_Si (fun z => r = z)) 0 0 (fun _ => False) := by
  refine Met.ofW (cc := b_C_dataOf) (maxL := 1) (ret := some .int) (by decide +kernel) rfl ?_
  intro p e s m args below meth c s₁ B hml hv
  obtain ⟨hargs, -⟩ := hv
  have hx := B.exec
  have hb := B.bytes
  have hr := B.returns
  have hts := atoms_spec (ws := ws_C_dataOf) B.pre
  have hown : s.vm.findClass "FlashStore$Code" = some m.cls := findClass_of_methodNamed B.named
  have hlocks := B.notSynchronized
  have hl := lv_entry ([.int a1]) (n := 1) (Nat.le_of_ble_eq_true rfl)
  have hen : entryFrame m args 1 = _ := (congrArg (fun z => entryFrame m z 1) hargs).trans (lg_entry_eq m ([.int a1]) 1)
  refine W.eq hen ?_
  clear hen
  generalize (lg_sl ([.int a1]) ++ List.replicate (1 - (lg_sl ([.int a1])).length) Slot.unset).toArray = ls at hl ⊢
  have hl : lv_has ls 1 [(0, .int a1)] := hl
  have hF : (some ((a1.toUInt32 >>> ((15 : Int32).toUInt32 &&& Int32.toUInt32 31)).toInt32)) = some r := hF
  refine lv_iload_n hx hb d_C_dataOf_0 rfl (lv_at hl 0 rfl) ?_
  refine lv_bipush (v := (15 : Int32)) hx hb d_C_dataOf_1 (by decide) ?_
  refine lv_iushr hx hb d_C_dataOf_3 rfl ?_
  exact W.iret hx hb hr (fun t ht hW => ⟨_, rfl, (Option.some.inj hF).symm, ht⟩) (fun q h => by cases h) d_C_dataOf_4
abbrev rm_C_timesX : Room := { frames := 0, cells := 0, slots := 0, locals := 0 }
set_option maxHeartbeats 4000000 in
set_option maxRecDepth 100000 in
theorem c_C_timesX (l : Launch) (a1 : Int32) (r : Int32)  (hF : f_C_timesX a1 = some r) : Met l y_C_timesX ws_C_timesX rm_C_timesX (va_Pc [.int a1] (fun _ => True)) (vp_Si (fun z => r = z)) 0 0 (fun _ => False) := by
  refine Met.ofW (cc := b_C_timesX) (maxL := 2) (ret := some .int) (by decide +kernel) rfl ?_
  intro p e s m args below meth c s₁ B hml hv
  obtain ⟨hargs, -⟩ := hv
  have hx := B.exec
  have hb := B.bytes
  have hr := B.returns
  have hts := atoms_spec (ws := ws_C_timesX) B.pre
  have hown : s.vm.findClass "FlashStore$Code" = some m.cls := findClass_of_methodNamed B.named
  have hlocks := B.notSynchronized
  have w0 := hts (.constant "FlashStore$Code" 29 (32768 : Int32)) (by decide +kernel)
  have w1 := hts (.constant "FlashStore$Code" 30 (36783 : Int32)) (by decide +kernel)
  have hl := lv_entry ([.int a1]) (n := 2) (Nat.le_of_ble_eq_true rfl)
  have hen : entryFrame m args 2 = _ := (congrArg (fun z => entryFrame m z 2) hargs).trans (lg_entry_eq m ([.int a1]) 2)
  refine W.eq hen ?_
  clear hen
  generalize (lg_sl ([.int a1]) ++ List.replicate (2 - (lg_sl ([.int a1])).length) Slot.unset).toArray = ls at hl ⊢
  have hl : lv_has ls 2 [(0, .int a1)] := hl
  have J19 : ∀ (ls : Array Slot) (z0 : Int32), lv_has ls 2 [] → f_C_timesX_J19 z0 = some r → W p l e (headSpec ws_C_timesX rm_C_timesX).room s m args below meth c s.heap [] 0 0 (MQ below (vp_Si (fun z => r = z)) args s 0 0 (fun _ => False)) (F0 m 19 ls [.int z0]) := by
    intro ls z0 hl hF
    have hF : (some z0) = some r := hF
    exact W.iret hx hb hr (fun t ht hW => ⟨_, rfl, (Option.some.inj hF).symm, ht⟩) (fun q h => by cases h) d_C_timesX_19
  have hF : (if ((a1 <<< ((1 : Int32) &&& 31)) &&& (32768 : Int32)) = 0 then (f_C_timesX_J19 (a1 <<< ((1 : Int32) &&& 31))) else (f_C_timesX_J19 ((a1 <<< ((1 : Int32) &&& 31)) ^^^ (36783 : Int32)))) = some r := hF
  refine lv_iload_n hx hb d_C_timesX_0 rfl (lv_at hl 0 rfl) ?_
  refine lv_iconst (v := (1 : Int32)) hx hb d_C_timesX_1 (by decide) ?_
  refine lv_ishl hx hb d_C_timesX_2 ?_
  refine lv_istore_n hx hb d_C_timesX_3 rfl hl (by decide) rfl (fun ls hl => ?_)
  have hl : lv_has ls 2 [(1, .int (a1 <<< ((1 : Int32) &&& 31))), (0, .int a1)] := hl
  refine lv_iload_n hx hb d_C_timesX_4 rfl (lv_at hl 0 rfl) ?_
  refine lv_ldc hx hb hown w0 d_C_timesX_5 ?_
  refine lv_iand hx hb d_C_timesX_7 ?_
  refine lv_if_eq hx hb d_C_timesX_8 (tgt := 18) (by decide) (fun h8 => ?_) (fun h8 => ?_)
  · have hF := tx_t h8 hF
    refine lv_iload_n hx hb d_C_timesX_18 rfl (lv_at hl 0 rfl) ?_
    exact J19 _ (a1 <<< ((1 : Int32) &&& 31)) (lv_sub hl [] rfl) hF
  · have hF := tx_f h8 hF
    refine lv_iload_n hx hb d_C_timesX_11 rfl (lv_at hl 0 rfl) ?_
    refine lv_ldc hx hb hown w1 d_C_timesX_12 ?_
    refine lv_ixor hx hb d_C_timesX_14 ?_
    refine lv_goto hx hb d_C_timesX_15 (tgt := 19) (by decide) ?_
    exact J19 _ ((a1 <<< ((1 : Int32) &&& 31)) ^^^ (36783 : Int32)) (lv_sub hl [] rfl) hF
abbrev rm_C_turned : Room := { frames := 0, cells := 0, slots := 0, locals := 0 }
set_option maxHeartbeats 4000000 in
set_option maxRecDepth 100000 in
theorem c_C_turned (l : Launch) (a1 : Int32) (a2 : Int32) (r : Int32)  (hF : f_C_turned a1 a2 = some r) : Met l y_C_turned ws_C_turned rm_C_turned (va_Pc [.int a1, .int a2] (fun _ => True)) (vp_Si (fun z => r = z)) 0 0 (fun _ => False) := by
  refine Met.ofW (cc := b_C_turned) (maxL := 2) (ret := some .int) (by decide +kernel) rfl ?_
  intro p e s m args below meth c s₁ B hml hv
  obtain ⟨hargs, -⟩ := hv
  have hx := B.exec
  have hb := B.bytes
  have hr := B.returns
  have hts := atoms_spec (ws := ws_C_turned) B.pre
  have hown : s.vm.findClass "FlashStore$Code" = some m.cls := findClass_of_methodNamed B.named
  have hlocks := B.notSynchronized
  have w0 := hts (.constant "FlashStore$Code" 28 (2147483647 : Int32)) (by decide +kernel)
  have hl := lv_entry ([.int a1, .int a2]) (n := 2) (Nat.le_of_ble_eq_true rfl)
  have hen : entryFrame m args 2 = _ := (congrArg (fun z => entryFrame m z 2) hargs).trans (lg_entry_eq m ([.int a1, .int a2]) 2)
  refine W.eq hen ?_
  clear hen
  generalize (lg_sl ([.int a1, .int a2]) ++ List.replicate (2 - (lg_sl ([.int a1, .int a2])).length) Slot.unset).toArray = ls at hl ⊢
  have hl : lv_has ls 2 [(0, .int a1), (1, .int a2)] := hl
  have hF : (some (((a1 <<< (a2 &&& 31)) ||| ((a1.toUInt32 >>> (((31 : Int32) - a2).toUInt32 &&& Int32.toUInt32 31)).toInt32)) &&& (2147483647 : Int32))) = some r := hF
  refine lv_iload_n hx hb d_C_turned_0 rfl (lv_at hl 0 rfl) ?_
  refine lv_iload_n hx hb d_C_turned_1 rfl (lv_at hl 1 rfl) ?_
  refine lv_ishl hx hb d_C_turned_2 ?_
  refine lv_iload_n hx hb d_C_turned_3 rfl (lv_at hl 0 rfl) ?_
  refine lv_bipush (v := (31 : Int32)) hx hb d_C_turned_4 (by decide) ?_
  refine lv_iload_n hx hb d_C_turned_6 rfl (lv_at hl 1 rfl) ?_
  refine lv_isub hx hb d_C_turned_7 ?_
  refine lv_iushr hx hb d_C_turned_8 rfl ?_
  refine lv_ior hx hb d_C_turned_9 ?_
  refine lv_ldc hx hb hown w0 d_C_turned_10 ?_
  refine lv_iand hx hb d_C_turned_12 ?_
  exact W.iret hx hb hr (fun t ht hW => ⟨_, rfl, (Option.some.inj hF).symm, ht⟩) (fun q h => by cases h) d_C_turned_13
abbrev rm_C_mendOneInData : Room := { frames := 1, cells := 0, slots := 0, locals := 22 }
set_option maxHeartbeats 4000000 in
set_option maxRecDepth 100000 in
theorem c_C_mendOneInData (l : Launch) (a1 : Int32) (r : Int32)  (hF : f_C_mendOneInData a1 = some r) : Met l y_C_mendOneInData ws_C_mendOneInData rm_C_mendOneInData (va_Pc [.int a1] (fun _ => True)) (vp_Si (fun z => r = z)) 0 0 (fun _ => False) := by
  refine Met.ofW (cc := b_C_mendOneInData) (maxL := 5) (ret := some .int) (by decide +kernel) rfl ?_
  intro p e s m args below meth c s₁ B hml hv
  obtain ⟨hargs, -⟩ := hv
  have hx := B.exec
  have hb := B.bytes
  have hr := B.returns
  have hts := atoms_spec (ws := ws_C_mendOneInData) B.pre
  have hown : s.vm.findClass "FlashStore$Code" = some m.cls := findClass_of_methodNamed B.named
  have hlocks := B.notSynchronized
  have hl := lv_entry ([.int a1]) (n := 5) (Nat.le_of_ble_eq_true rfl)
  have hen : entryFrame m args 5 = _ := (congrArg (fun z => entryFrame m z 5) hargs).trans (lg_entry_eq m ([.int a1]) 5)
  refine W.eq hen ?_
  clear hen
  generalize (lg_sl ([.int a1]) ++ List.replicate (5 - (lg_sl ([.int a1])).length) Slot.unset).toArray = ls at hl ⊢
  have hl : lv_has ls 5 [(0, .int a1)] := hl
  have LH : ∀ n : Nat, (∀ (ls : Array Slot) (v0 : Int32) (v1 : Int32) (v2 : Int32) (v3 : Int32), lv_has ls 5 [(0, .int v0), (1, .int v1), (2, .int v2), (3, .int v3)] → f_C_mendOneInData_H n v0 v1 v2 v3 = some r → W p l e (headSpec ws_C_mendOneInData rm_C_mendOneInData).room s m args below meth c s.heap [] 0 0 (MQ below (vp_Si (fun z => r = z)) args s 0 0 (fun _ => False)) (F0 m 24 ls [])) := by
    intro n
    induction n with
    | zero =>
      exact (by intro ls v0 v1 v2 v3 hl hF; have hF : (none : Option (Int32)) = _ := hF; cases hF)
    | succ n ih =>
      have hrec0 := ih
      intro ls v0 v1 v2 v3 hl hF
      have hF : (if (31 : Int32) ≤ v3 then (some (-1 : Int32)) else ((f_U_bitCount (v1 ^^^ v2)).bind fun r37 => if (3 : Int32) ≤ r37 then ((f_C_timesX v2).bind fun r54 => f_C_mendOneInData_H n v0 v1 r54 (v3 + (1 : Int32))) else (some ((v0 ^^^ (v1 ^^^ v2)) ^^^ ((1 : Int32) <<< (v3 &&& 31)))))) = some r := hF
      refine lv_iload_n hx hb d_C_mendOneInData_24 rfl (lv_at hl 3 rfl) ?_
      refine lv_bipush (v := (31 : Int32)) hx hb d_C_mendOneInData_25 (by decide) ?_
      refine lv_icmp_ge hx hb d_C_mendOneInData_27 (tgt := 64) (by decide) (fun h27 => ?_) (fun h27 => ?_)
      · have hF := tx_t h27 hF
        refine lv_iconst (v := (-1 : Int32)) hx hb d_C_mendOneInData_64 (by decide) ?_
        exact W.iret hx hb hr (fun t ht hW => ⟨_, rfl, (Option.some.inj hF).symm, ht⟩) (fun q h => by cases h) d_C_mendOneInData_65
      · have hF := tx_f h27 hF
        refine lv_iload_n hx hb d_C_mendOneInData_30 rfl (lv_at hl 1 rfl) ?_
        refine lv_iload_n hx hb d_C_mendOneInData_31 rfl (lv_at hl 2 rfl) ?_
        refine lv_ixor hx hb d_C_mendOneInData_32 ?_
        refine lv_istore hx hb d_C_mendOneInData_33 hl (by decide) rfl (fun ls hl => ?_)
        have hl : lv_has ls 5 [(4, .int (v1 ^^^ v2)), (0, .int v0), (1, .int v1), (2, .int v2), (3, .int v3)] := hl
        refine lv_iload hx hb d_C_mendOneInData_35 (lv_at hl 0 rfl) ?_
        obtain ⟨r37, hc37, hF⟩ := tx_b hF
        refine vp_callSi (W.runS (As := [.int (v1 ^^^ v2)]) (rest := []) ⟨hx, hb, hml, hown, hts⟩ (c_U_bitCount l (v1 ^^^ v2) r37 hc37) (va_cwS 1 hts (tg_S bq_1_90 bq_1_91 bq_1_10 bq_1_92) rfl rfl rfl (by decide +kernel) ⟨Nat.le_of_ble_eq_true rfl, Nat.le_of_ble_eq_true rfl⟩) ⟨tx_bl0, tx_pre0⟩ rfl rfl hl.1 rfl (lv_room (Nat.le_of_ble_eq_true rfl)) d_C_mendOneInData_37 ⟨Nat.zero_le _, Nat.zero_le _⟩) (fun zz hz => ?_)
        subst hz
        refine lv_iconst (v := (3 : Int32)) hx hb d_C_mendOneInData_40 (by decide) ?_
        refine lv_icmp_ge hx hb d_C_mendOneInData_41 (tgt := 53) (by decide) (fun h41 => ?_) (fun h41 => ?_)
        · have hF := tx_t h41 hF
          refine lv_iload_n hx hb d_C_mendOneInData_53 rfl (lv_at hl 3 rfl) ?_
          obtain ⟨r54, hc54, hF⟩ := tx_b hF
          refine vp_callSi (W.runS (As := [.int v2]) (rest := []) ⟨hx, hb, hml, hown, hts⟩ (c_C_timesX l v2 r54 hc54) (va_cwS 1 hts (tg_S bq_1_96 bq_1_97 bq_1_9 bq_1_98) rfl rfl rfl (by decide +kernel) ⟨Nat.le_of_ble_eq_true rfl, Nat.le_of_ble_eq_true rfl⟩) ⟨tx_bl0, tx_pre0⟩ rfl rfl hl.1 rfl (lv_room (Nat.le_of_ble_eq_true rfl)) d_C_mendOneInData_54 ⟨Nat.zero_le _, Nat.zero_le _⟩) (fun zz hz => ?_)
          subst hz
          refine lv_istore_n hx hb d_C_mendOneInData_57 rfl hl (by decide) rfl (fun ls hl => ?_)
          have hl : lv_has ls 5 [(2, .int r54), (4, .int (v1 ^^^ v2)), (0, .int v0), (1, .int v1), (3, .int v3)] := hl
          refine lv_iinc (k := 4) (v := (v3 + (1 : Int32))) hx hb d_C_mendOneInData_58 hl rfl rfl (by decide) rfl (fun ls hl => ?_)
          have hl : lv_has ls 5 [(3, .int (v3 + (1 : Int32))), (2, .int r54), (4, .int (v1 ^^^ v2)), (0, .int v0), (1, .int v1)] := hl
          refine lv_goto hx hb d_C_mendOneInData_61 (tgt := 24) (by decide) ?_
          exact hrec0 _ v0 v1 r54 (v3 + (1 : Int32)) (lv_sub hl [3, 4, 1, 0] rfl) hF
        · have hF := tx_f h41 hF
          refine lv_iload_n hx hb d_C_mendOneInData_44 rfl (lv_at hl 1 rfl) ?_
          refine lv_iload hx hb d_C_mendOneInData_45 (lv_at hl 0 rfl) ?_
          refine lv_ixor hx hb d_C_mendOneInData_47 ?_
          refine lv_iconst (v := (1 : Int32)) hx hb d_C_mendOneInData_48 (by decide) ?_
          refine lv_iload_n hx hb d_C_mendOneInData_49 rfl (lv_at hl 4 rfl) ?_
          refine lv_ishl hx hb d_C_mendOneInData_50 ?_
          refine lv_ixor hx hb d_C_mendOneInData_51 ?_
          exact W.iret hx hb hr (fun t ht hW => ⟨_, rfl, (Option.some.inj hF).symm, ht⟩) (fun q h => by cases h) d_C_mendOneInData_52
  obtain hrec0 := LH 100
  have hF : ((f_C_remainder a1).bind fun r1 => (f_U_bitCount r1).bind fun r6 => if (3 : Int32) < r6 then (f_C_mendOneInData_H 100 a1 r1 (4015 : Int32) (15 : Int32)) else (some (a1 ^^^ r1))) = some r := hF
  refine lv_iload_n hx hb d_C_mendOneInData_0 rfl (lv_at hl 0 rfl) ?_
  obtain ⟨r1, hc1, hF⟩ := tx_b hF
  refine vp_callSi (W.runS (As := [.int a1]) (rest := []) ⟨hx, hb, hml, hown, hts⟩ (c_C_remainder l a1 r1 hc1) (va_cwS 1 hts (tg_S bq_1_86 bq_1_87 bq_1_9 bq_1_88) rfl rfl rfl (by decide +kernel) ⟨Nat.le_of_ble_eq_true rfl, Nat.le_of_ble_eq_true rfl⟩) ⟨tx_bl0, tx_pre0⟩ rfl rfl hl.1 rfl (lv_room (Nat.le_of_ble_eq_true rfl)) d_C_mendOneInData_1 ⟨Nat.zero_le _, Nat.zero_le _⟩) (fun zz hz => ?_)
  subst hz
  refine lv_istore_n hx hb d_C_mendOneInData_4 rfl hl (by decide) rfl (fun ls hl => ?_)
  have hl : lv_has ls 5 [(1, .int r1), (0, .int a1)] := hl
  refine lv_iload_n hx hb d_C_mendOneInData_5 rfl (lv_at hl 0 rfl) ?_
  obtain ⟨r6, hc6, hF⟩ := tx_b hF
  refine vp_callSi (W.runS (As := [.int r1]) (rest := []) ⟨hx, hb, hml, hown, hts⟩ (c_U_bitCount l r1 r6 hc6) (va_cwS 1 hts (tg_S bq_1_90 bq_1_91 bq_1_10 bq_1_92) rfl rfl rfl (by decide +kernel) ⟨Nat.le_of_ble_eq_true rfl, Nat.le_of_ble_eq_true rfl⟩) ⟨tx_bl0, tx_pre0⟩ rfl rfl hl.1 rfl (lv_room (Nat.le_of_ble_eq_true rfl)) d_C_mendOneInData_6 ⟨Nat.zero_le _, Nat.zero_le _⟩) (fun zz hz => ?_)
  subst hz
  refine lv_iconst (v := (3 : Int32)) hx hb d_C_mendOneInData_9 (by decide) ?_
  refine lv_icmp_gt hx hb d_C_mendOneInData_10 (tgt := 17) (by decide) (fun h10 => ?_) (fun h10 => ?_)
  · have hF := tx_t h10 hF
    refine lv_sipush (v := (4015 : Int32)) hx hb d_C_mendOneInData_17 (by decide) ?_
    refine lv_istore_n hx hb d_C_mendOneInData_20 rfl hl (by decide) rfl (fun ls hl => ?_)
    have hl : lv_has ls 5 [(2, .int (4015 : Int32)), (1, .int r1), (0, .int a1)] := hl
    refine lv_bipush (v := (15 : Int32)) hx hb d_C_mendOneInData_21 (by decide) ?_
    refine lv_istore_n hx hb d_C_mendOneInData_23 rfl hl (by decide) rfl (fun ls hl => ?_)
    have hl : lv_has ls 5 [(3, .int (15 : Int32)), (2, .int (4015 : Int32)), (1, .int r1), (0, .int a1)] := hl
    exact hrec0 _ a1 r1 (4015 : Int32) (15 : Int32) (lv_sub hl [3, 2, 1, 0] rfl) hF
  · have hF := tx_f h10 hF
    refine lv_iload_n hx hb d_C_mendOneInData_13 rfl (lv_at hl 1 rfl) ?_
    refine lv_iload_n hx hb d_C_mendOneInData_14 rfl (lv_at hl 0 rfl) ?_
    refine lv_ixor hx hb d_C_mendOneInData_15 ?_
    exact W.iret hx hb hr (fun t ht hW => ⟨_, rfl, (Option.some.inj hF).symm, ht⟩) (fun q h => by cases h) d_C_mendOneInData_16
abbrev rm_C_mend : Room := { frames := 2, cells := 0, slots := 0, locals := 46 }
set_option maxHeartbeats 4000000 in
set_option maxRecDepth 100000 in
theorem c_C_mend (l : Launch) (a1 : Int32) (r : Int32)  (hF : f_C_mend a1 = some r) : Met l y_C_mend ws_C_mend rm_C_mend (va_Pc [.int a1] (fun _ => True)) (vp_Si (fun z => r = z)) 0 0 (fun _ => False) := by
  refine Met.ofW (cc := b_C_mend) (maxL := 3) (ret := some .int) (by decide +kernel) rfl ?_
  intro p e s m args below meth c s₁ B hml hv
  obtain ⟨hargs, -⟩ := hv
  have hx := B.exec
  have hb := B.bytes
  have hr := B.returns
  have hts := atoms_spec (ws := ws_C_mend) B.pre
  have hown : s.vm.findClass "FlashStore$Code" = some m.cls := findClass_of_methodNamed B.named
  have hlocks := B.notSynchronized
  have hl := lv_entry ([.int a1]) (n := 3) (Nat.le_of_ble_eq_true rfl)
  have hen : entryFrame m args 3 = _ := (congrArg (fun z => entryFrame m z 3) hargs).trans (lg_entry_eq m ([.int a1]) 3)
  refine W.eq hen ?_
  clear hen
  generalize (lg_sl ([.int a1]) ++ List.replicate (3 - (lg_sl ([.int a1])).length) Slot.unset).toArray = ls at hl ⊢
  have hl : lv_has ls 3 [(0, .int a1)] := hl
  have LH : ∀ n : Nat, (∀ (ls : Array Slot) (v0 : Int32) (v1 : Int32), lv_has ls 3 [(0, .int v0), (1, .int v1)] → f_C_mend_H n v0 v1 = some r → W p l e (headSpec ws_C_mend rm_C_mend).room s m args below meth c s.heap [] 0 0 (MQ below (vp_Si (fun z => r = z)) args s 0 0 (fun _ => False)) (F0 m 2 ls [])) := by
    intro n
    induction n with
    | zero =>
      exact (by intro ls v0 v1 hl hF; have hF : (none : Option (Int32)) = _ := hF; cases hF)
    | succ n ih =>
      have hrec0 := ih
      intro ls v0 v1 hl hF
      have hF : (if (31 : Int32) ≤ v1 then (some (-1 : Int32)) else ((f_C_turned v0 v1).bind fun r10 => (f_C_mendOneInData r10).bind fun r13 => if r13 = (-1 : Int32) then (f_C_mend_H n v0 (v1 + (5 : Int32))) else ((f_C_turned r13 ((31 : Int32) - v1)).bind fun r27 => some r27))) = some r := hF
      refine lv_iload_n hx hb d_C_mend_2 rfl (lv_at hl 1 rfl) ?_
      refine lv_bipush (v := (31 : Int32)) hx hb d_C_mend_3 (by decide) ?_
      refine lv_icmp_ge hx hb d_C_mend_5 (tgt := 37) (by decide) (fun h5 => ?_) (fun h5 => ?_)
      · have hF := tx_t h5 hF
        refine lv_iconst (v := (-1 : Int32)) hx hb d_C_mend_37 (by decide) ?_
        exact W.iret hx hb hr (fun t ht hW => ⟨_, rfl, (Option.some.inj hF).symm, ht⟩) (fun q h => by cases h) d_C_mend_38
      · have hF := tx_f h5 hF
        refine lv_iload_n hx hb d_C_mend_8 rfl (lv_at hl 0 rfl) ?_
        refine lv_iload_n hx hb d_C_mend_9 rfl (lv_at hl 1 rfl) ?_
        obtain ⟨r10, hc10, hF⟩ := tx_b hF
        refine vp_callSi (W.runS (As := [.int v0, .int v1]) (rest := []) ⟨hx, hb, hml, hown, hts⟩ (c_C_turned l v0 v1 r10 hc10) (va_cwS 2 hts (tg_S bq_1_79 bq_1_80 bq_1_9 bq_1_81) rfl rfl rfl (by decide +kernel) ⟨Nat.le_of_ble_eq_true rfl, Nat.le_of_ble_eq_true rfl⟩) ⟨tx_bl0, tx_pre0⟩ rfl rfl hl.1 rfl (lv_room (Nat.le_of_ble_eq_true rfl)) d_C_mend_10 ⟨Nat.zero_le _, Nat.zero_le _⟩) (fun zz hz => ?_)
        subst hz
        obtain ⟨r13, hc13, hF⟩ := tx_b hF
        refine vp_callSi (W.runS (As := [.int r10]) (rest := []) ⟨hx, hb, hml, hown, hts⟩ (c_C_mendOneInData l r10 r13 hc13) (va_cwS 1 hts (tg_S bq_1_83 bq_1_84 bq_1_9 bq_1_85) rfl rfl rfl (by decide +kernel) ⟨Nat.le_of_ble_eq_true rfl, Nat.le_of_ble_eq_true rfl⟩) ⟨tx_bl0, tx_pre0⟩ rfl rfl hl.1 rfl (lv_room (Nat.le_of_ble_eq_true rfl)) d_C_mend_13 ⟨Nat.zero_le _, Nat.zero_le _⟩) (fun zz hz => ?_)
        subst hz
        refine lv_istore_n hx hb d_C_mend_16 rfl hl (by decide) rfl (fun ls hl => ?_)
        have hl : lv_has ls 3 [(2, .int r13), (0, .int v0), (1, .int v1)] := hl
        refine lv_iload_n hx hb d_C_mend_17 rfl (lv_at hl 0 rfl) ?_
        refine lv_iconst (v := (-1 : Int32)) hx hb d_C_mend_18 (by decide) ?_
        refine lv_icmp_eq hx hb d_C_mend_19 (tgt := 31) (by decide) (fun h19 => ?_) (fun h19 => ?_)
        · have hF := tx_t h19 hF
          refine lv_iinc (k := 2) (v := (v1 + (5 : Int32))) hx hb d_C_mend_31 hl rfl rfl (by decide) rfl (fun ls hl => ?_)
          have hl : lv_has ls 3 [(1, .int (v1 + (5 : Int32))), (2, .int r13), (0, .int v0)] := hl
          refine lv_goto hx hb d_C_mend_34 (tgt := 2) (by decide) ?_
          exact hrec0 _ v0 (v1 + (5 : Int32)) (lv_sub hl [2, 0] rfl) hF
        · have hF := tx_f h19 hF
          refine lv_iload_n hx hb d_C_mend_22 rfl (lv_at hl 0 rfl) ?_
          refine lv_bipush (v := (31 : Int32)) hx hb d_C_mend_23 (by decide) ?_
          refine lv_iload_n hx hb d_C_mend_25 rfl (lv_at hl 2 rfl) ?_
          refine lv_isub hx hb d_C_mend_26 ?_
          obtain ⟨r27, hc27, hF⟩ := tx_b hF
          refine vp_callSi (W.runS (As := [.int r13, .int ((31 : Int32) - v1)]) (rest := []) ⟨hx, hb, hml, hown, hts⟩ (c_C_turned l r13 ((31 : Int32) - v1) r27 hc27) (va_cwS 2 hts (tg_S bq_1_79 bq_1_80 bq_1_9 bq_1_81) rfl rfl rfl (by decide +kernel) ⟨Nat.le_of_ble_eq_true rfl, Nat.le_of_ble_eq_true rfl⟩) ⟨tx_bl0, tx_pre0⟩ rfl rfl hl.1 rfl (lv_room (Nat.le_of_ble_eq_true rfl)) d_C_mend_27 ⟨Nat.zero_le _, Nat.zero_le _⟩) (fun zz hz => ?_)
          subst hz
          exact W.iret hx hb hr (fun t ht hW => ⟨_, rfl, (Option.some.inj hF).symm, ht⟩) (fun q h => by cases h) d_C_mend_30
  obtain hrec0 := LH 100
  have hF : (f_C_mend_H 100 a1 (0 : Int32)) = some r := hF
  refine lv_iconst (v := (0 : Int32)) hx hb d_C_mend_0 (by decide) ?_
  refine lv_istore_n hx hb d_C_mend_1 rfl hl (by decide) rfl (fun ls hl => ?_)
  have hl : lv_has ls 3 [(1, .int (0 : Int32)), (0, .int a1)] := hl
  exact hrec0 _ a1 (0 : Int32) (lv_sub hl [1, 0] rfl) hF
end
section
abbrev rm_F_placeOf : Room := { frames := 0, cells := 0, slots := 0, locals := 0 }
set_option maxHeartbeats 4000000 in
set_option maxRecDepth 100000 in
theorem c_F_placeOf (l : Launch) (a1 : Int32) (a2 : Int32) (r : Int32)  (hF : f_F_placeOf a1 a2 = some r) : Met l y_F_placeOf ws_F_placeOf rm_F_placeOf (va_Pc [.int a1, .int a2] (fun _ => True)) (vp_Si (fun z => r = z)) 0 0 (fun _ => False) := by
  refine Met.ofW (cc := b_F_placeOf) (maxL := 2) (ret := some .int) (by decide +kernel) rfl ?_
  intro p e s m args below meth c s₁ B hml hv
  obtain ⟨hargs, -⟩ := hv
  have hx := B.exec
  have hb := B.bytes
  have hr := B.returns
  have hts := atoms_spec (ws := ws_F_placeOf) B.pre
  have hown : s.vm.findClass "FlashStore" = some m.cls := findClass_of_methodNamed B.named
  have hlocks := B.notSynchronized
  have hl := lv_entry ([.int a1, .int a2]) (n := 2) (Nat.le_of_ble_eq_true rfl)
  have hen : entryFrame m args 2 = _ := (congrArg (fun z => entryFrame m z 2) hargs).trans (lg_entry_eq m ([.int a1, .int a2]) 2)
  refine W.eq hen ?_
  clear hen
  generalize (lg_sl ([.int a1, .int a2]) ++ List.replicate (2 - (lg_sl ([.int a1, .int a2])).length) Slot.unset).toArray = ls at hl ⊢
  have hl : lv_has ls 2 [(0, .int a1), (1, .int a2)] := hl
  have hF : (some ((a1 * (4 : Int32)) + a2)) = some r := hF
  refine lv_iload_n hx hb d_F_placeOf_0 rfl (lv_at hl 0 rfl) ?_
  refine lv_iconst (v := (4 : Int32)) hx hb d_F_placeOf_1 (by decide) ?_
  refine lv_imul hx hb d_F_placeOf_2 ?_
  refine lv_iload_n hx hb d_F_placeOf_3 rfl (lv_at hl 1 rfl) ?_
  refine lv_iadd hx hb d_F_placeOf_4 ?_
  exact W.iret hx hb hr (fun t ht hW => ⟨_, rfl, (Option.some.inj hF).symm, ht⟩) (fun q h => by cases h) d_F_placeOf_5
abbrev rm_M_wordAt : Room := { frames := 0, cells := 0, slots := 0, locals := 0 }
set_option maxHeartbeats 4000000 in
set_option maxRecDepth 100000 in
theorem c_M_wordAt (l : Launch) (dC : Nat → ClassId) (dI : Nat → Nat → Nat) (cA : ClassId) (q1 q5 q6 : Nat) (wd er : Nat → Int32) (a1 : Int32) (a2 : Int32) (r : Int32)  (hF : f_M_wordAt wd a1 a2 = some r) : Met l y_M_wordAt ws_M_wordAt rm_M_wordAt (tx_PR [.ref q1, .int a1, .int a2] (dC, dI) [(cA, .int)] (wM cA q1 q5 q6 wd er)) (vp_Si (fun z => r = z)) 0 0 (fun _ => False) := by
  refine Met.ofW (cc := b_M_wordAt) (maxL := 3) (ret := some .int) (by decide +kernel) rfl ?_
  intro p e s m args below meth c s₁ B hml hv
  obtain ⟨hargs, hP, hK⟩ := hv
  have hx := B.exec
  have hb := B.bytes
  have hr := B.returns
  have hts := atoms_spec (ws := ws_M_wordAt) B.pre
  have hown : s.vm.findClass "FlashStore$Flash" = some m.cls := findClass_of_methodNamed B.named
  have hlocks := B.notSynchronized
  have w0 := (hts _ (List.mem_cons_of_mem _ bq_1_32))
  have hl := lv_entry ([.ref q1, .int a1, .int a2]) (n := 3) (Nat.le_of_ble_eq_true rfl)
  have hen : entryFrame m args 3 = _ := (congrArg (fun z => entryFrame m z 3) hargs).trans (lg_entry_eq m ([.ref q1, .int a1, .int a2]) 3)
  refine W.eq hen ?_
  clear hen
  generalize (lg_sl ([.ref q1, .int a1, .int a2]) ++ List.replicate (3 - (lg_sl ([.ref q1, .int a1, .int a2])).length) Slot.unset).toArray = ls at hl ⊢
  have hl : lv_has ls 3 [(0, .ref q1), (1, .int a1), (2, .int a2)] := hl
  have hF : (if ((a1 * (5 : Int32)) + a2) < 0 ∨ 80 ≤ ((a1 * (5 : Int32)) + a2).toNatClampNeg then none else some (wd ((a1 * (5 : Int32)) + a2).toNatClampNeg)) = some r := hF
  refine lv_aload_n hx hb d_M_wordAt_0 rfl (lv_at hl 0 rfl) ?_
  refine va_get (D := (dC, dI)) (ci := 0) (v := .ref q5) (C := "FlashStore$Flash") (T := TM) (N := 2) hx hb hts inTM hown hK hP 0 rfl rfl 0 (by decide) w0 (fun _ h9 => h9) rfl d_M_wordAt_1 ?_
  refine lv_iload_n hx hb d_M_wordAt_4 rfl (lv_at hl 1 rfl) ?_
  refine lv_iconst (v := (5 : Int32)) hx hb d_M_wordAt_5 (by decide) ?_
  refine lv_imul hx hb d_M_wordAt_6 ?_
  refine lv_iload_n hx hb d_M_wordAt_7 rfl (lv_at hl 2 rfl) ?_
  refine lv_iadd hx hb d_M_wordAt_8 ?_
  obtain ⟨hi9, hF⟩ := tx_g hF
  refine va_iald hx hb hK hP 1 0 rfl rfl hi9 d_M_wordAt_9 ?_
  exact W.iret hx hb hr (fun t ht hW => ⟨_, rfl, (Option.some.inj hF).symm, ht⟩) (fun q h => by cases h) d_M_wordAt_10
abbrev rm_M_turnOver : Room := { frames := 0, cells := 0, slots := 0, locals := 0 }
set_option maxHeartbeats 4000000 in
set_option maxRecDepth 100000 in
theorem c_M_turnOver (l : Launch) (dC : Nat → ClassId) (dI : Nat → Nat → Nat) (cA : ClassId) (q1 q5 q6 sz : Nat) (wd er : Nat → Int32) (a1 : Int32) (a2 : Int32) (a3 : Int32) (wd' : Nat → Int32) (hF : f_M_turnOver wd a1 a2 a3 = some wd') : Met l y_M_turnOver ws_M_turnOver rm_M_turnOver (tx_PW [.ref q1, .int a1, .int a2, .int a3] (dC, dI) [(cA, .int)] (wM cA q1 q5 q6 wd er) sz) (va_Qv (S := Unit) (fun _ => True) (fun _ t => va_P (dC, dI) vwCl (wM cA q1 q5 q6 (wd') er) t.heap ∧ va_D (va_A (wM cA q1 q5 q6 wd er) sz) (wM cA q1 q5 q6 (wd') er)) (va_A (wM cA q1 q5 q6 wd er) sz)) 0 0 (va_A (wM cA q1 q5 q6 wd er) sz) := by
  refine Met.ofW (cc := b_M_turnOver) (maxL := 4) (ret := none) (by decide +kernel) rfl ?_
  intro p e s m args below meth c s₁ B hml hv
  obtain ⟨hargs, hsz, hP, hK, hD0, hNw⟩ := hv
  have hx := B.exec
  have hb := B.bytes
  have hr := B.returns
  have hts := atoms_spec (ws := ws_M_turnOver) B.pre
  have hown : s.vm.findClass "FlashStore$Flash" = some m.cls := findClass_of_methodNamed B.named
  have hlocks := B.notSynchronized
  subst hsz
  have hD := hD0.self (sz := s.heap.size)
  generalize hAe : va_A (wM cA q1 q5 q6 wd er) s.heap.size = A at hD ⊢
  have hA : ∀ q : Nat, s.heap.size ≤ q → A q := fun q h => by rw [← hAe]; exact Or.inr h
  have hS : va_S A s.heap s.heap [] := va_S.rf
  have hP : va_P (dC, dI) vwCl (wM cA q1 q5 q6 wd er) s.heap := hP
  have w0 := (hts _ (List.mem_cons_of_mem _ bq_1_32))
  have hl := lv_entry ([.ref q1, .int a1, .int a2, .int a3]) (n := 4) (Nat.le_of_ble_eq_true rfl)
  have hen : entryFrame m args 4 = _ := (congrArg (fun z => entryFrame m z 4) hargs).trans (lg_entry_eq m ([.ref q1, .int a1, .int a2, .int a3]) 4)
  refine W.eq hen ?_
  clear hen
  generalize (lg_sl ([.ref q1, .int a1, .int a2, .int a3]) ++ List.replicate (4 - (lg_sl ([.ref q1, .int a1, .int a2, .int a3])).length) Slot.unset).toArray = ls at hl ⊢
  have hl : lv_has ls 4 [(0, .ref q1), (1, .int a1), (2, .int a2), (3, .int a3)] := hl
  have hF : (if ((a1 * (5 : Int32)) + a2) < 0 ∨ 80 ≤ ((a1 * (5 : Int32)) + a2).toNatClampNeg then none else some (upd wd ((a1 * (5 : Int32)) + a2).toNatClampNeg ((wd ((a1 * (5 : Int32)) + a2).toNatClampNeg) ^^^ a3))) = some wd' := hF
  refine lv_aload_n hx hb d_M_turnOver_0 rfl (lv_at hl 0 rfl) ?_
  refine va_get (D := (dC, dI)) (ci := 0) (v := .ref q5) (C := "FlashStore$Flash") (T := TM) (N := 2) hx hb hts inTM hown hK hP 0 rfl rfl 0 (by decide) w0 (fun _ h9 => h9) rfl d_M_turnOver_1 ?_
  refine lv_iload_n hx hb d_M_turnOver_4 rfl (lv_at hl 1 rfl) ?_
  refine lv_iconst (v := (5 : Int32)) hx hb d_M_turnOver_5 (by decide) ?_
  refine lv_imul hx hb d_M_turnOver_6 ?_
  refine lv_iload_n hx hb d_M_turnOver_7 rfl (lv_at hl 2 rfl) ?_
  refine lv_iadd hx hb d_M_turnOver_8 ?_
  refine lv_dup2_11 hx hb d_M_turnOver_9 rfl rfl ?_
  obtain ⟨hi10, hF⟩ := tx_g hF
  refine va_iald hx hb hK hP 1 0 rfl rfl hi10 d_M_turnOver_10 ?_
  refine lv_iload_n hx hb d_M_turnOver_11 rfl (lv_at hl 3 rfl) ?_
  refine lv_ixor hx hb d_M_turnOver_12 ?_
  refine va_iast hx hb hK hP hD hS 1 0 rfl rfl hi10 d_M_turnOver_13 (fun H locs hP hD hS => ?_)
  have hP : va_P (dC, dI) vwCl (wM cA q1 q5 q6 (upd wd ((a1 * (5 : Int32)) + a2).toNatClampNeg ((wd ((a1 * (5 : Int32)) + a2).toNatClampNeg) ^^^ a3)) er) H := hP
  have hD : va_D A (wM cA q1 q5 q6 (upd wd ((a1 * (5 : Int32)) + a2).toNatClampNeg ((wd ((a1 * (5 : Int32)) + a2).toNatClampNeg) ^^^ a3)) er) := hD
  cases hF
  exact W.vret hx hb hr (fun t ht hW => ⟨⟨(), rfl, trivial, by rw [ht]; exact hP, hD⟩, hS.F ht⟩) hS.2.2 d_M_turnOver_14
abbrev rm_M_program : Room := { frames := 2, cells := 0, slots := 0, locals := 43 }
set_option maxHeartbeats 4000000 in
set_option maxRecDepth 100000 in
theorem c_M_program (l : Launch) (dC : Nat → ClassId) (dI : Nat → Nat → Nat) (cA : ClassId) (q1 q5 q6 sz : Nat) (wd er : Nat → Int32) (a1 : Int32) (a2 : Int64) (a3 : Int32) (wd' : Nat → Int32) (hF : f_M_program wd a1 a2 a3 = some wd') : Met l y_M_program ws_M_program rm_M_program (tx_PW [.ref q1, .int a1, .long a2, .int a3] (dC, dI) [(cA, .int)] (wM cA q1 q5 q6 wd er) sz) (va_Qv (S := Unit) (fun _ => True) (fun _ t => va_P (dC, dI) vwCl (wM cA q1 q5 q6 (wd') er) t.heap ∧ va_D (va_A (wM cA q1 q5 q6 wd er) sz) (wM cA q1 q5 q6 (wd') er)) (va_A (wM cA q1 q5 q6 wd er) sz)) 0 0 (va_A (wM cA q1 q5 q6 wd er) sz) := by
  refine Met.ofW (cc := b_M_program) (maxL := 8) (ret := none) (by decide +kernel) rfl ?_
  intro p e s m args below meth c s₁ B hml hv
  obtain ⟨hargs, hsz, hP, hK, hD0, hNw⟩ := hv
  have hx := B.exec
  have hb := B.bytes
  have hr := B.returns
  have hts := atoms_spec (ws := ws_M_program) B.pre
  have hown : s.vm.findClass "FlashStore$Flash" = some m.cls := findClass_of_methodNamed B.named
  have hlocks := B.notSynchronized
  subst hsz
  have hD := hD0.self (sz := s.heap.size)
  generalize hAe : va_A (wM cA q1 q5 q6 wd er) s.heap.size = A at hD ⊢
  have hA : ∀ q : Nat, s.heap.size ≤ q → A q := fun q h => by rw [← hAe]; exact Or.inr h
  have hS : va_S A s.heap s.heap [] := va_S.rf
  have hP : va_P (dC, dI) vwCl (wM cA q1 q5 q6 wd er) s.heap := hP
  have w0 := (hts _ (List.mem_cons_of_mem _ bq_1_32))
  have w1 := hts (.constant "FlashStore$Flash" 27 (65535 : Int32)) (by decide +kernel)
  have hl := lv_entry ([.ref q1, .int a1, .long a2, .int a3]) (n := 8) (Nat.le_of_ble_eq_true rfl)
  have hen : entryFrame m args 8 = _ := (congrArg (fun z => entryFrame m z 8) hargs).trans (lg_entry_eq m ([.ref q1, .int a1, .long a2, .int a3]) 8)
  refine W.eq hen ?_
  clear hen
  generalize (lg_sl ([.ref q1, .int a1, .long a2, .int a3]) ++ List.replicate (8 - (lg_sl ([.ref q1, .int a1, .long a2, .int a3])).length) Slot.unset).toArray = ls at hl ⊢
  have hl : lv_has ls 8 [(0, .ref q1), (1, .int a1), (2, .long a2), (4, .int a3)] := hl
  have LH : ∀ n : Nat, (∀ (H : Heap) (locs : List Loc) (ls : Array Slot) (wd : Nat → Int32) (v2 : Int64) (v4 : Int32) (v5 : Int32) (v6 : Int32), va_P (dC, dI) vwCl (wM cA q1 q5 q6 wd er) H → va_D A (wM cA q1 q5 q6 wd er) → va_S A s.heap H locs → lv_has ls 8 [(0, .ref q1), (2, .long v2), (4, .int v4), (5, .int v5), (6, .int v6)] → f_M_program_H n wd v2 v4 v5 v6 = some wd' → W p l e (headSpec ws_M_program rm_M_program).room s m args below meth c H locs 0 0 (MQ below (va_Qv (S := Unit) (fun _ => True) (fun _ t => va_P (dC, dI) vwCl (wM cA q1 q5 q6 (wd') er) t.heap ∧ va_D A (wM cA q1 q5 q6 (wd') er)) A) args s 0 0 A) (F0 m 8 ls [])) := by
    intro n
    induction n with
    | zero =>
      exact (by intro H locs ls wd v2 v4 v5 v6 hP hD hS hl hF; have hF : (none : Option ((Nat → Int32))) = _ := hF; cases hF)
    | succ n ih =>
      have hrec0 := ih
      intro H locs ls wd v2 v4 v5 v6 hP hD hS hl hF
      have hF : (if (4 : Int32) ≤ v6 then (if (v5 + (4 : Int32)) < 0 ∨ 80 ≤ (v5 + (4 : Int32)).toNatClampNeg then none else (f_C_codewordOf v4).bind fun r63 => some (upd wd (v5 + (4 : Int32)).toNatClampNeg ((wd (v5 + (4 : Int32)).toNatClampNeg) &&& r63))) else (if (v5 + v6) < 0 ∨ 80 ≤ (v5 + v6).toNatClampNeg then none else (f_C_codewordOf ((((v2.toUInt64 >>> ((v6 * (16 : Int32)).toInt64.toUInt64 &&& Int64.toUInt64 63)).toInt64).toInt32) &&& (65535 : Int32))).bind fun r40 => f_M_program_H n (upd wd (v5 + v6).toNatClampNeg ((wd (v5 + v6).toNatClampNeg) &&& r40)) v2 v4 v5 (v6 + (1 : Int32)))) = some wd' := hF
      refine lv_iload hx hb d_M_program_8 (lv_at hl 4 rfl) ?_
      refine lv_iconst (v := (4 : Int32)) hx hb d_M_program_10 (by decide) ?_
      refine lv_icmp_ge hx hb d_M_program_11 (tgt := 51) (by decide) (fun h11 => ?_) (fun h11 => ?_)
      · have hF := tx_t h11 hF
        refine lv_aload_n hx hb d_M_program_51 rfl (lv_at hl 0 rfl) ?_
        refine va_get (D := (dC, dI)) (ci := 0) (v := .ref q5) (C := "FlashStore$Flash") (T := TM) (N := 2) hx hb hts inTM hown hK hP 0 rfl rfl 0 (by decide) w0 (fun _ h9 => h9) rfl d_M_program_52 ?_
        refine lv_iload hx hb d_M_program_55 (lv_at hl 3 rfl) ?_
        refine lv_iconst (v := (4 : Int32)) hx hb d_M_program_57 (by decide) ?_
        refine lv_iadd hx hb d_M_program_58 ?_
        refine lv_dup2_11 hx hb d_M_program_59 rfl rfl ?_
        obtain ⟨hi60, hF⟩ := tx_g hF
        refine va_iald hx hb hK hP 1 0 rfl rfl hi60 d_M_program_60 ?_
        refine lv_iload hx hb d_M_program_61 (lv_at hl 2 rfl) ?_
        obtain ⟨r63, hc63, hF⟩ := tx_b hF
        refine vp_callSi (W.runS (As := [.int v4]) (rest := [.int (wd (v5 + (4 : Int32)).toNatClampNeg), .int (v5 + (4 : Int32)), .ref q5]) ⟨hx, hb, hml, hown, hts⟩ (c_C_codewordOf l v4 r63 hc63) (va_cwS 1 hts (tg_S bq_2_102 bq_1_213 bq_1_9 bq_1_214) rfl rfl rfl (by decide +kernel) ⟨Nat.le_of_ble_eq_true rfl, Nat.le_of_ble_eq_true rfl⟩) ⟨tx_bl0, tx_pre0⟩ rfl rfl hl.1 rfl (lv_room (Nat.le_of_ble_eq_true rfl)) d_M_program_63 ⟨Nat.zero_le _, Nat.zero_le _⟩) (fun zz hz => ?_)
        subst hz
        refine lv_iand hx hb d_M_program_66 ?_
        refine va_iast hx hb hK hP hD hS 1 0 rfl rfl hi60 d_M_program_67 (fun H locs hP hD hS => ?_)
        have hP : va_P (dC, dI) vwCl (wM cA q1 q5 q6 (upd wd (v5 + (4 : Int32)).toNatClampNeg ((wd (v5 + (4 : Int32)).toNatClampNeg) &&& r63)) er) H := hP
        have hD : va_D A (wM cA q1 q5 q6 (upd wd (v5 + (4 : Int32)).toNatClampNeg ((wd (v5 + (4 : Int32)).toNatClampNeg) &&& r63)) er) := hD
        cases hF
        exact W.vret hx hb hr (fun t ht hW => ⟨⟨(), rfl, trivial, by rw [ht]; exact hP, hD⟩, hS.F ht⟩) hS.2.2 d_M_program_68
      · have hF := tx_f h11 hF
        refine lv_lload_n hx hb d_M_program_14 rfl (lv_at hl 1 rfl) ?_
        refine lv_iload hx hb d_M_program_15 (lv_at hl 4 rfl) ?_
        refine lv_bipush (v := (16 : Int32)) hx hb d_M_program_17 (by decide) ?_
        refine lv_imul hx hb d_M_program_19 ?_
        refine lv_lushr hx hb d_M_program_20 rfl ?_
        refine lv_l2i hx hb d_M_program_21 rfl ?_
        refine lv_ldc hx hb hown w1 d_M_program_22 ?_
        refine lv_iand hx hb d_M_program_24 ?_
        refine lv_istore hx hb d_M_program_25 hl (by decide) rfl (fun ls hl => ?_)
        have hl : lv_has ls 8 [(7, .int ((((v2.toUInt64 >>> ((v6 * (16 : Int32)).toInt64.toUInt64 &&& Int64.toUInt64 63)).toInt64).toInt32) &&& (65535 : Int32))), (0, .ref q1), (2, .long v2), (4, .int v4), (5, .int v5), (6, .int v6)] := hl
        refine lv_aload_n hx hb d_M_program_27 rfl (lv_at hl 1 rfl) ?_
        refine va_get (D := (dC, dI)) (ci := 0) (v := .ref q5) (C := "FlashStore$Flash") (T := TM) (N := 2) hx hb hts inTM hown hK hP 0 rfl rfl 0 (by decide) w0 (fun _ h9 => h9) rfl d_M_program_28 ?_
        refine lv_iload hx hb d_M_program_31 (lv_at hl 4 rfl) ?_
        refine lv_iload hx hb d_M_program_33 (lv_at hl 5 rfl) ?_
        refine lv_iadd hx hb d_M_program_35 ?_
        refine lv_dup2_11 hx hb d_M_program_36 rfl rfl ?_
        obtain ⟨hi37, hF⟩ := tx_g hF
        refine va_iald hx hb hK hP 1 0 rfl rfl hi37 d_M_program_37 ?_
        refine lv_iload hx hb d_M_program_38 (lv_at hl 0 rfl) ?_
        obtain ⟨r40, hc40, hF⟩ := tx_b hF
        refine vp_callSi (W.runS (As := [.int ((((v2.toUInt64 >>> ((v6 * (16 : Int32)).toInt64.toUInt64 &&& Int64.toUInt64 63)).toInt64).toInt32) &&& (65535 : Int32))]) (rest := [.int (wd (v5 + v6).toNatClampNeg), .int (v5 + v6), .ref q5]) ⟨hx, hb, hml, hown, hts⟩ (c_C_codewordOf l ((((v2.toUInt64 >>> ((v6 * (16 : Int32)).toInt64.toUInt64 &&& Int64.toUInt64 63)).toInt64).toInt32) &&& (65535 : Int32)) r40 hc40) (va_cwS 1 hts (tg_S bq_2_102 bq_1_213 bq_1_9 bq_1_214) rfl rfl rfl (by decide +kernel) ⟨Nat.le_of_ble_eq_true rfl, Nat.le_of_ble_eq_true rfl⟩) ⟨tx_bl0, tx_pre0⟩ rfl rfl hl.1 rfl (lv_room (Nat.le_of_ble_eq_true rfl)) d_M_program_40 ⟨Nat.zero_le _, Nat.zero_le _⟩) (fun zz hz => ?_)
        subst hz
        refine lv_iand hx hb d_M_program_43 ?_
        refine va_iast hx hb hK hP hD hS 1 0 rfl rfl hi37 d_M_program_44 (fun H locs hP hD hS => ?_)
        have hP : va_P (dC, dI) vwCl (wM cA q1 q5 q6 (upd wd (v5 + v6).toNatClampNeg ((wd (v5 + v6).toNatClampNeg) &&& r40)) er) H := hP
        have hD : va_D A (wM cA q1 q5 q6 (upd wd (v5 + v6).toNatClampNeg ((wd (v5 + v6).toNatClampNeg) &&& r40)) er) := hD
        refine lv_iinc (k := 5) (v := (v6 + (1 : Int32))) hx hb d_M_program_45 hl rfl rfl (by decide) rfl (fun ls hl => ?_)
        have hl : lv_has ls 8 [(6, .int (v6 + (1 : Int32))), (7, .int ((((v2.toUInt64 >>> ((v6 * (16 : Int32)).toInt64.toUInt64 &&& Int64.toUInt64 63)).toInt64).toInt32) &&& (65535 : Int32))), (0, .ref q1), (2, .long v2), (4, .int v4), (5, .int v5)] := hl
        refine lv_goto hx hb d_M_program_48 (tgt := 8) (by decide) ?_
        exact hrec0 _ _ _ (upd wd (v5 + v6).toNatClampNeg ((wd (v5 + v6).toNatClampNeg) &&& r40)) v2 v4 v5 (v6 + (1 : Int32)) hP hD hS (lv_sub hl [2, 3, 4, 5, 0] rfl) hF
  obtain hrec0 := LH 100
  have hF : (f_M_program_H 100 wd a2 a3 (a1 * (5 : Int32)) (0 : Int32)) = some wd' := hF
  refine lv_iload_n hx hb d_M_program_0 rfl (lv_at hl 1 rfl) ?_
  refine lv_iconst (v := (5 : Int32)) hx hb d_M_program_1 (by decide) ?_
  refine lv_imul hx hb d_M_program_2 ?_
  refine lv_istore hx hb d_M_program_3 hl (by decide) rfl (fun ls hl => ?_)
  have hl : lv_has ls 8 [(5, .int (a1 * (5 : Int32))), (0, .ref q1), (1, .int a1), (2, .long a2), (4, .int a3)] := hl
  refine lv_iconst (v := (0 : Int32)) hx hb d_M_program_5 (by decide) ?_
  refine lv_istore hx hb d_M_program_6 hl (by decide) rfl (fun ls hl => ?_)
  have hl : lv_has ls 8 [(6, .int (0 : Int32)), (5, .int (a1 * (5 : Int32))), (0, .ref q1), (1, .int a1), (2, .long a2), (4, .int a3)] := hl
  exact hrec0 _ _ _ wd a2 a3 (a1 * (5 : Int32)) (0 : Int32) hP hD hS (lv_sub hl [2, 4, 5, 1, 0] rfl) hF
abbrev rm_M_erase : Room := { frames := 1, cells := 0, slots := 0, locals := 21 }
set_option maxHeartbeats 4000000 in
set_option maxRecDepth 100000 in
theorem c_M_erase (l : Launch) (dC : Nat → ClassId) (dI : Nat → Nat → Nat) (cA : ClassId) (q1 q5 q6 sz : Nat) (wd er : Nat → Int32) (a1 : Int32) (wd' : Nat → Int32) (er' : Nat → Int32) (hF : f_M_erase wd er a1 = some (wd', er')) : Met l y_M_erase ws_M_erase rm_M_erase (tx_PW [.ref q1, .int a1] (dC, dI) [(cA, .int)] (wM cA q1 q5 q6 wd er) sz) (va_Qv (S := Unit) (fun _ => True) (fun _ t => va_P (dC, dI) vwCl (wM cA q1 q5 q6 (wd') (er')) t.heap ∧ va_D (va_A (wM cA q1 q5 q6 wd er) sz) (wM cA q1 q5 q6 (wd') (er'))) (va_A (wM cA q1 q5 q6 wd er) sz)) 0 0 (va_A (wM cA q1 q5 q6 wd er) sz) := by
  refine Met.ofW (cc := b_M_erase) (maxL := 4) (ret := none) (by decide +kernel) rfl ?_
  intro p e s m args below meth c s₁ B hml hv
  obtain ⟨hargs, hsz, hP, hK, hD0, hNw⟩ := hv
  have hx := B.exec
  have hb := B.bytes
  have hr := B.returns
  have hts := atoms_spec (ws := ws_M_erase) B.pre
  have hown : s.vm.findClass "FlashStore$Flash" = some m.cls := findClass_of_methodNamed B.named
  have hlocks := B.notSynchronized
  subst hsz
  have hD := hD0.self (sz := s.heap.size)
  generalize hAe : va_A (wM cA q1 q5 q6 wd er) s.heap.size = A at hD ⊢
  have hA : ∀ q : Nat, s.heap.size ≤ q → A q := fun q h => by rw [← hAe]; exact Or.inr h
  have hS : va_S A s.heap s.heap [] := va_S.rf
  have hP : va_P (dC, dI) vwCl (wM cA q1 q5 q6 wd er) s.heap := hP
  have w0 := (hts _ (List.mem_cons_of_mem _ bq_1_33))
  have w1 := (hts _ (List.mem_cons_of_mem _ bq_1_32))
  have w2 := hts (.constant "FlashStore$Flash" 20 (2147483647 : Int32)) (by decide +kernel)
  have hl := lv_entry ([.ref q1, .int a1]) (n := 4) (Nat.le_of_ble_eq_true rfl)
  have hen : entryFrame m args 4 = _ := (congrArg (fun z => entryFrame m z 4) hargs).trans (lg_entry_eq m ([.ref q1, .int a1]) 4)
  refine W.eq hen ?_
  clear hen
  generalize (lg_sl ([.ref q1, .int a1]) ++ List.replicate (4 - (lg_sl ([.ref q1, .int a1])).length) Slot.unset).toArray = ls at hl ⊢
  have hl : lv_has ls 4 [(0, .ref q1), (1, .int a1)] := hl
  have LH : ∀ n : Nat, (∀ (H : Heap) (locs : List Loc) (ls : Array Slot) (wd : Nat → Int32) (er : Nat → Int32) (v1 : Int32) (v2 : Int32) (v3 : Int32), va_P (dC, dI) vwCl (wM cA q1 q5 q6 wd er) H → va_D A (wM cA q1 q5 q6 wd er) → va_S A s.heap H locs → lv_has ls 4 [(0, .ref q1), (1, .int v1), (2, .int v2), (3, .int v3)] → f_M_erase_H n wd er v1 v2 v3 = some (wd', er') → W p l e (headSpec ws_M_erase rm_M_erase).room s m args below meth c H locs 0 0 (MQ below (va_Qv (S := Unit) (fun _ => True) (fun _ t => va_P (dC, dI) vwCl (wM cA q1 q5 q6 (wd') (er')) t.heap ∧ va_D A (wM cA q1 q5 q6 (wd') (er'))) A) args s 0 0 A) (F0 m 10 ls [])) := by
    intro n
    induction n with
    | zero =>
      exact (by intro H locs ls wd er v1 v2 v3 hP hD hS hl hF; have hF : (none : Option ((Nat → Int32) × (Nat → Int32))) = _ := hF; cases hF)
    | succ n ih =>
      have hrec0 := ih
      intro H locs ls wd er v1 v2 v3 hP hD hS hl hF
      have hF : (if (20 : Int32) ≤ v3 then (if v1 < 0 ∨ 4 ≤ v1.toNatClampNeg then none else some (wd, (upd er v1.toNatClampNeg ((er v1.toNatClampNeg) + (1 : Int32))))) else (if (v2 + v3) < 0 ∨ 80 ≤ (v2 + v3).toNatClampNeg then none else f_M_erase_H n (upd wd (v2 + v3).toNatClampNeg (2147483647 : Int32)) er v1 v2 (v3 + (1 : Int32)))) = some (wd', er') := hF
      refine lv_iload_n hx hb d_M_erase_10 rfl (lv_at hl 3 rfl) ?_
      refine lv_bipush (v := (20 : Int32)) hx hb d_M_erase_11 (by decide) ?_
      refine lv_icmp_ge hx hb d_M_erase_13 (tgt := 32) (by decide) (fun h13 => ?_) (fun h13 => ?_)
      · have hF := tx_t h13 hF
        refine lv_aload_n hx hb d_M_erase_32 rfl (lv_at hl 0 rfl) ?_
        refine va_get (D := (dC, dI)) (ci := 0) (v := .ref q6) (C := "FlashStore$Flash") (T := TM) (N := 2) hx hb hts inTM hown hK hP 0 rfl rfl 1 (by decide) w0 (fun _ h9 => h9) rfl d_M_erase_33 ?_
        refine lv_iload_n hx hb d_M_erase_36 rfl (lv_at hl 1 rfl) ?_
        refine lv_dup2_11 hx hb d_M_erase_37 rfl rfl ?_
        obtain ⟨hi38, hF⟩ := tx_g hF
        refine va_iald hx hb hK hP 2 0 rfl rfl hi38 d_M_erase_38 ?_
        refine lv_iconst (v := (1 : Int32)) hx hb d_M_erase_39 (by decide) ?_
        refine lv_iadd hx hb d_M_erase_40 ?_
        refine va_iast hx hb hK hP hD hS 2 0 rfl rfl hi38 d_M_erase_41 (fun H locs hP hD hS => ?_)
        have hP : va_P (dC, dI) vwCl (wM cA q1 q5 q6 wd (upd er v1.toNatClampNeg ((er v1.toNatClampNeg) + (1 : Int32)))) H := hP
        have hD : va_D A (wM cA q1 q5 q6 wd (upd er v1.toNatClampNeg ((er v1.toNatClampNeg) + (1 : Int32)))) := hD
        cases hF
        exact W.vret hx hb hr (fun t ht hW => ⟨⟨(), rfl, trivial, by rw [ht]; exact hP, hD⟩, hS.F ht⟩) hS.2.2 d_M_erase_42
      · have hF := tx_f h13 hF
        refine lv_aload_n hx hb d_M_erase_16 rfl (lv_at hl 0 rfl) ?_
        refine va_get (D := (dC, dI)) (ci := 0) (v := .ref q5) (C := "FlashStore$Flash") (T := TM) (N := 2) hx hb hts inTM hown hK hP 0 rfl rfl 0 (by decide) w1 (fun _ h9 => h9) rfl d_M_erase_17 ?_
        refine lv_iload_n hx hb d_M_erase_20 rfl (lv_at hl 2 rfl) ?_
        refine lv_iload_n hx hb d_M_erase_21 rfl (lv_at hl 3 rfl) ?_
        refine lv_iadd hx hb d_M_erase_22 ?_
        refine lv_ldc hx hb hown w2 d_M_erase_23 ?_
        obtain ⟨hi25, hF⟩ := tx_g hF
        refine va_iast hx hb hK hP hD hS 1 0 rfl rfl hi25 d_M_erase_25 (fun H locs hP hD hS => ?_)
        have hP : va_P (dC, dI) vwCl (wM cA q1 q5 q6 (upd wd (v2 + v3).toNatClampNeg (2147483647 : Int32)) er) H := hP
        have hD : va_D A (wM cA q1 q5 q6 (upd wd (v2 + v3).toNatClampNeg (2147483647 : Int32)) er) := hD
        refine lv_iinc (k := 3) (v := (v3 + (1 : Int32))) hx hb d_M_erase_26 hl rfl rfl (by decide) rfl (fun ls hl => ?_)
        have hl : lv_has ls 4 [(3, .int (v3 + (1 : Int32))), (0, .ref q1), (1, .int v1), (2, .int v2)] := hl
        refine lv_goto hx hb d_M_erase_29 (tgt := 10) (by decide) ?_
        exact hrec0 _ _ _ (upd wd (v2 + v3).toNatClampNeg (2147483647 : Int32)) er v1 v2 (v3 + (1 : Int32)) hP hD hS (lv_sub hl [1, 2, 3, 0] rfl) hF
  obtain hrec0 := LH 100
  have hF : ((f_F_placeOf a1 (0 : Int32)).bind fun r2 => f_M_erase_H 100 wd er a1 (r2 * (5 : Int32)) (0 : Int32)) = some (wd', er') := hF
  refine lv_iload_n hx hb d_M_erase_0 rfl (lv_at hl 1 rfl) ?_
  refine lv_iconst (v := (0 : Int32)) hx hb d_M_erase_1 (by decide) ?_
  obtain ⟨r2, hc2, hF⟩ := tx_b hF
  refine tx_csNi (va_runSN (As := [.int a1, .int (0 : Int32)]) (rest := []) ⟨hx, hb, hml, hown, hts⟩ (c_F_placeOf l a1 (0 : Int32) r2 hc2) ⟨va_cnB 2 hts (tg_N bq_2_36) rfl rfl rfl hNw (hts _ (List.mem_cons_of_mem _ bq_1_1)) (by decide +kernel) ⟨Nat.le_of_ble_eq_true rfl, Nat.le_of_ble_eq_true rfl⟩, (hts _ (List.mem_cons_of_mem _ bq_2_35)), trivial⟩ ⟨tx_bl0, tx_pre0⟩ rfl rfl hl.1 rfl (lv_room (Nat.le_of_ble_eq_true rfl)) d_M_erase_2 ⟨Nat.zero_le _, Nat.zero_le _⟩) (fun zz hz => ?_)
  subst hz
  refine lv_iconst (v := (5 : Int32)) hx hb d_M_erase_5 (by decide) ?_
  refine lv_imul hx hb d_M_erase_6 ?_
  refine lv_istore_n hx hb d_M_erase_7 rfl hl (by decide) rfl (fun ls hl => ?_)
  have hl : lv_has ls 4 [(2, .int (r2 * (5 : Int32))), (0, .ref q1), (1, .int a1)] := hl
  refine lv_iconst (v := (0 : Int32)) hx hb d_M_erase_8 (by decide) ?_
  refine lv_istore_n hx hb d_M_erase_9 rfl hl (by decide) rfl (fun ls hl => ?_)
  have hl : lv_has ls 4 [(3, .int (0 : Int32)), (2, .int (r2 * (5 : Int32))), (0, .ref q1), (1, .int a1)] := hl
  exact hrec0 _ _ _ wd er a1 (r2 * (5 : Int32)) (0 : Int32) hP hD hS (lv_sub hl [2, 3, 1, 0] rfl) hF
abbrev rm_M_erasuresOf : Room := { frames := 0, cells := 0, slots := 0, locals := 0 }
set_option maxHeartbeats 4000000 in
set_option maxRecDepth 100000 in
theorem c_M_erasuresOf (l : Launch) (dC : Nat → ClassId) (dI : Nat → Nat → Nat) (cA : ClassId) (q1 q5 q6 : Nat) (wd er : Nat → Int32) (a1 : Int32) (r : Int32)  (hF : f_M_erasuresOf er a1 = some r) : Met l y_M_erasuresOf ws_M_erasuresOf rm_M_erasuresOf (tx_PR [.ref q1, .int a1] (dC, dI) [(cA, .int)] (wM cA q1 q5 q6 wd er)) (vp_Si (fun z => r = z)) 0 0 (fun _ => False) := by
  refine Met.ofW (cc := b_M_erasuresOf) (maxL := 2) (ret := some .int) (by decide +kernel) rfl ?_
  intro p e s m args below meth c s₁ B hml hv
  obtain ⟨hargs, hP, hK⟩ := hv
  have hx := B.exec
  have hb := B.bytes
  have hr := B.returns
  have hts := atoms_spec (ws := ws_M_erasuresOf) B.pre
  have hown : s.vm.findClass "FlashStore$Flash" = some m.cls := findClass_of_methodNamed B.named
  have hlocks := B.notSynchronized
  have w0 := (hts _ (List.mem_cons_of_mem _ bq_1_33))
  have hl := lv_entry ([.ref q1, .int a1]) (n := 2) (Nat.le_of_ble_eq_true rfl)
  have hen : entryFrame m args 2 = _ := (congrArg (fun z => entryFrame m z 2) hargs).trans (lg_entry_eq m ([.ref q1, .int a1]) 2)
  refine W.eq hen ?_
  clear hen
  generalize (lg_sl ([.ref q1, .int a1]) ++ List.replicate (2 - (lg_sl ([.ref q1, .int a1])).length) Slot.unset).toArray = ls at hl ⊢
  have hl : lv_has ls 2 [(0, .ref q1), (1, .int a1)] := hl
  have hF : (if a1 < 0 ∨ 4 ≤ a1.toNatClampNeg then none else some (er a1.toNatClampNeg)) = some r := hF
  refine lv_aload_n hx hb d_M_erasuresOf_0 rfl (lv_at hl 0 rfl) ?_
  refine va_get (D := (dC, dI)) (ci := 0) (v := .ref q6) (C := "FlashStore$Flash") (T := TM) (N := 2) hx hb hts inTM hown hK hP 0 rfl rfl 1 (by decide) w0 (fun _ h9 => h9) rfl d_M_erasuresOf_1 ?_
  refine lv_iload_n hx hb d_M_erasuresOf_4 rfl (lv_at hl 1 rfl) ?_
  obtain ⟨hi5, hF⟩ := tx_g hF
  refine va_iald hx hb hK hP 2 0 rfl rfl hi5 d_M_erasuresOf_5 ?_
  exact W.iret hx hb hr (fun t ht hW => ⟨_, rfl, (Option.some.inj hF).symm, ht⟩) (fun q h => by cases h) d_M_erasuresOf_6
abbrev rm_M_tagAt : Room := { frames := 3, cells := 0, slots := 0, locals := 68 }
set_option maxHeartbeats 4000000 in
set_option maxRecDepth 100000 in
theorem c_M_tagAt (l : Launch) (dC : Nat → ClassId) (dI : Nat → Nat → Nat) (cA : ClassId) (q1 q5 q6 : Nat) (wd er : Nat → Int32) (a1 : Int32) (r : Int32)  (hF : f_M_tagAt wd a1 = some r) : Met l y_M_tagAt ws_M_tagAt rm_M_tagAt (tx_PR [.ref q1, .int a1] (dC, dI) [(cA, .int)] (wM cA q1 q5 q6 wd er)) (vp_Si (fun z => r = z)) 0 0 (fun _ => False) := by
  refine Met.ofW (cc := b_M_tagAt) (maxL := 3) (ret := some .int) (by decide +kernel) rfl ?_
  intro p e s m args below meth c s₁ B hml hv
  obtain ⟨hargs, hP, hK⟩ := hv
  have hx := B.exec
  have hb := B.bytes
  have hr := B.returns
  have hts := atoms_spec (ws := ws_M_tagAt) B.pre
  have hown : s.vm.findClass "FlashStore$Flash" = some m.cls := findClass_of_methodNamed B.named
  have hlocks := B.notSynchronized
  have hl := lv_entry ([.ref q1, .int a1]) (n := 3) (Nat.le_of_ble_eq_true rfl)
  have hen : entryFrame m args 3 = _ := (congrArg (fun z => entryFrame m z 3) hargs).trans (lg_entry_eq m ([.ref q1, .int a1]) 3)
  refine W.eq hen ?_
  clear hen
  generalize (lg_sl ([.ref q1, .int a1]) ++ List.replicate (3 - (lg_sl ([.ref q1, .int a1])).length) Slot.unset).toArray = ls at hl ⊢
  have hl : lv_has ls 3 [(0, .ref q1), (1, .int a1)] := hl
  have J23 : ∀ (ls : Array Slot) (z0 : Int32), lv_has ls 3 [] → f_M_tagAt_J23 wd z0 = some r → W p l e (headSpec ws_M_tagAt rm_M_tagAt).room s m args below meth c s.heap [] 0 0 (MQ below (vp_Si (fun z => r = z)) args s 0 0 (fun _ => False)) (F0 m 23 ls [.int z0]) := by
    intro ls z0 hl hF
    have hF : (some z0) = some r := hF
    exact W.iret hx hb hr (fun t ht hW => ⟨_, rfl, (Option.some.inj hF).symm, ht⟩) (fun q h => by cases h) d_M_tagAt_23
  have hF : ((f_M_wordAt wd a1 (4 : Int32)).bind fun r3 => (f_C_mend r3).bind fun r6 => if r6 = (-1 : Int32) then (f_M_tagAt_J23 wd (-1 : Int32)) else ((f_C_dataOf r6).bind fun r20 => f_M_tagAt_J23 wd r20)) = some r := hF
  refine lv_aload_n hx hb d_M_tagAt_0 rfl (lv_at hl 0 rfl) ?_
  refine lv_iload_n hx hb d_M_tagAt_1 rfl (lv_at hl 1 rfl) ?_
  refine lv_iconst (v := (4 : Int32)) hx hb d_M_tagAt_2 (by decide) ?_
  obtain ⟨r3, hc3, hF⟩ := tx_b hF
  refine vp_callSi (W.runV (As := [.int a1, .int (4 : Int32)]) (rest := []) ⟨hx, hb, hml, hown, hts⟩ (c_M_wordAt l dC dI cA q1 q5 q6 wd er a1 (4 : Int32) r3 hc3) (cwV 2 hts (tg_V bq_1_72 bq_1_73 bq_1_74 bq_1_2 bq_1_75) rfl rfl rfl (by decide +kernel) ⟨Nat.le_of_ble_eq_true rfl, Nat.le_of_ble_eq_true rfl⟩) ⟨tx_blR, (va_recv (ci := 0) (q0 := 0) hK hP rfl rfl), tx_preR (hP) hK⟩ rfl rfl hl.1 rfl (lv_room (Nat.le_of_ble_eq_true rfl)) d_M_tagAt_3 ⟨Nat.zero_le _, Nat.zero_le _⟩) (fun zz hz => ?_)
  subst hz
  obtain ⟨r6, hc6, hF⟩ := tx_b hF
  refine vp_callSi (W.runS (As := [.int r3]) (rest := []) ⟨hx, hb, hml, hown, hts⟩ (c_C_mend l r3 r6 hc6) (va_cwS 1 hts (tg_S bq_1_76 bq_1_77 bq_1_9 bq_1_78) rfl rfl rfl (by decide +kernel) ⟨Nat.le_of_ble_eq_true rfl, Nat.le_of_ble_eq_true rfl⟩) ⟨tx_bl0, tx_pre0⟩ rfl rfl hl.1 rfl (lv_room (Nat.le_of_ble_eq_true rfl)) d_M_tagAt_6 ⟨Nat.zero_le _, Nat.zero_le _⟩) (fun zz hz => ?_)
  subst hz
  refine lv_istore_n hx hb d_M_tagAt_9 rfl hl (by decide) rfl (fun ls hl => ?_)
  have hl : lv_has ls 3 [(2, .int r6), (0, .ref q1), (1, .int a1)] := hl
  refine lv_iload_n hx hb d_M_tagAt_10 rfl (lv_at hl 0 rfl) ?_
  refine lv_iconst (v := (-1 : Int32)) hx hb d_M_tagAt_11 (by decide) ?_
  refine lv_icmp_ne hx hb d_M_tagAt_12 (tgt := 19) (by decide) (fun h12 => ?_) (fun h12 => ?_)
  · have hF := tx_f h12 hF
    refine lv_iload_n hx hb d_M_tagAt_19 rfl (lv_at hl 0 rfl) ?_
    obtain ⟨r20, hc20, hF⟩ := tx_b hF
    refine vp_callSi (W.runS (As := [.int r6]) (rest := []) ⟨hx, hb, hml, hown, hts⟩ (c_C_dataOf l r6 r20 hc20) (va_cwS 1 hts (tg_S bq_1_100 bq_1_101 bq_1_9 bq_1_102) rfl rfl rfl (by decide +kernel) ⟨Nat.le_of_ble_eq_true rfl, Nat.le_of_ble_eq_true rfl⟩) ⟨tx_bl0, tx_pre0⟩ rfl rfl hl.1 rfl (lv_room (Nat.le_of_ble_eq_true rfl)) d_M_tagAt_20 ⟨Nat.zero_le _, Nat.zero_le _⟩) (fun zz hz => ?_)
    subst hz
    exact J23 _ r20 (lv_sub hl [] rfl) hF
  · have hF := tx_t h12 hF
    refine lv_iconst (v := (-1 : Int32)) hx hb d_M_tagAt_15 (by decide) ?_
    refine lv_goto hx hb d_M_tagAt_16 (tgt := 23) (by decide) ?_
    exact J23 _ (-1 : Int32) (lv_sub hl [] rfl) hF
abbrev rm_M_isReadable : Room := { frames := 3, cells := 0, slots := 0, locals := 68 }
set_option maxHeartbeats 4000000 in
set_option maxRecDepth 100000 in
theorem c_M_isReadable (l : Launch) (dC : Nat → ClassId) (dI : Nat → Nat → Nat) (cA : ClassId) (q1 q5 q6 : Nat) (wd er : Nat → Int32) (a1 : Int32) (r : Int32)  (hF : f_M_isReadable wd a1 = some r) : Met l y_M_isReadable ws_M_isReadable rm_M_isReadable (tx_PR [.ref q1, .int a1] (dC, dI) [(cA, .int)] (wM cA q1 q5 q6 wd er)) (vp_Si (fun z => r = z)) 0 0 (fun _ => False) := by
  refine Met.ofW (cc := b_M_isReadable) (maxL := 3) (ret := some .boolean) (by decide +kernel) rfl ?_
  intro p e s m args below meth c s₁ B hml hv
  obtain ⟨hargs, hP, hK⟩ := hv
  have hx := B.exec
  have hb := B.bytes
  have hr := B.returns
  have hts := atoms_spec (ws := ws_M_isReadable) B.pre
  have hown : s.vm.findClass "FlashStore$Flash" = some m.cls := findClass_of_methodNamed B.named
  have hlocks := B.notSynchronized
  have hl := lv_entry ([.ref q1, .int a1]) (n := 3) (Nat.le_of_ble_eq_true rfl)
  have hen : entryFrame m args 3 = _ := (congrArg (fun z => entryFrame m z 3) hargs).trans (lg_entry_eq m ([.ref q1, .int a1]) 3)
  refine W.eq hen ?_
  clear hen
  generalize (lg_sl ([.ref q1, .int a1]) ++ List.replicate (3 - (lg_sl ([.ref q1, .int a1])).length) Slot.unset).toArray = ls at hl ⊢
  have hl : lv_has ls 3 [(0, .ref q1), (1, .int a1)] := hl
  have LH : ∀ n : Nat, (∀ (ls : Array Slot) (v1 : Int32) (v2 : Int32), lv_has ls 3 [(0, .ref q1), (1, .int v1), (2, .int v2)] → f_M_isReadable_H n wd v1 v2 = some r → W p l e (headSpec ws_M_isReadable rm_M_isReadable).room s m args below meth c s.heap [] 0 0 (MQ below (vp_Si (fun z => r = z)) args s 0 0 (fun _ => False)) (F0 m 2 ls [])) := by
    intro n
    induction n with
    | zero =>
      exact (by intro ls v1 v2 hl hF; have hF : (none : Option (Int32)) = _ := hF; cases hF)
    | succ n ih =>
      have hrec0 := ih
      intro ls v1 v2 hl hF
      have hF : (if (4 : Int32) ≤ v2 then (if ¬ ((1 : Int32) = 0 ∨ (1 : Int32) = 1) then none else some (1 : Int32)) else ((f_M_wordAt wd v1 v2).bind fun r10 => (f_C_mend r10).bind fun r13 => if r13 = (-1 : Int32) then (if ¬ ((0 : Int32) = 0 ∨ (0 : Int32) = 1) then none else some (0 : Int32)) else (f_M_isReadable_H n wd v1 (v2 + (1 : Int32))))) = some r := hF
      refine lv_iload_n hx hb d_M_isReadable_2 rfl (lv_at hl 2 rfl) ?_
      refine lv_iconst (v := (4 : Int32)) hx hb d_M_isReadable_3 (by decide) ?_
      refine lv_icmp_ge hx hb d_M_isReadable_4 (tgt := 28) (by decide) (fun h4 => ?_) (fun h4 => ?_)
      · have hF := tx_t h4 hF
        refine lv_iconst (v := (1 : Int32)) hx hb d_M_isReadable_28 (by decide) ?_
        obtain ⟨hz, hF⟩ := tx_g hF
        have hz := Classical.not_not.mp hz
        exact W.zret hx hb hr (tx_z hz) (fun t ht hW => ⟨_, rfl, (Option.some.inj hF).symm, ht⟩) (fun q h => by cases h) d_M_isReadable_29
      · have hF := tx_f h4 hF
        refine lv_aload_n hx hb d_M_isReadable_7 rfl (lv_at hl 0 rfl) ?_
        refine lv_iload_n hx hb d_M_isReadable_8 rfl (lv_at hl 1 rfl) ?_
        refine lv_iload_n hx hb d_M_isReadable_9 rfl (lv_at hl 2 rfl) ?_
        obtain ⟨r10, hc10, hF⟩ := tx_b hF
        refine vp_callSi (W.runV (As := [.int v1, .int v2]) (rest := []) ⟨hx, hb, hml, hown, hts⟩ (c_M_wordAt l dC dI cA q1 q5 q6 wd er v1 v2 r10 hc10) (cwV 2 hts (tg_V bq_1_72 bq_1_73 bq_1_74 bq_1_2 bq_1_75) rfl rfl rfl (by decide +kernel) ⟨Nat.le_of_ble_eq_true rfl, Nat.le_of_ble_eq_true rfl⟩) ⟨tx_blR, (va_recv (ci := 0) (q0 := 0) hK hP rfl rfl), tx_preR (hP) hK⟩ rfl rfl hl.1 rfl (lv_room (Nat.le_of_ble_eq_true rfl)) d_M_isReadable_10 ⟨Nat.zero_le _, Nat.zero_le _⟩) (fun zz hz => ?_)
        subst hz
        obtain ⟨r13, hc13, hF⟩ := tx_b hF
        refine vp_callSi (W.runS (As := [.int r10]) (rest := []) ⟨hx, hb, hml, hown, hts⟩ (c_C_mend l r10 r13 hc13) (va_cwS 1 hts (tg_S bq_1_76 bq_1_77 bq_1_9 bq_1_78) rfl rfl rfl (by decide +kernel) ⟨Nat.le_of_ble_eq_true rfl, Nat.le_of_ble_eq_true rfl⟩) ⟨tx_bl0, tx_pre0⟩ rfl rfl hl.1 rfl (lv_room (Nat.le_of_ble_eq_true rfl)) d_M_isReadable_13 ⟨Nat.zero_le _, Nat.zero_le _⟩) (fun zz hz => ?_)
        subst hz
        refine lv_iconst (v := (-1 : Int32)) hx hb d_M_isReadable_16 (by decide) ?_
        refine lv_icmp_ne hx hb d_M_isReadable_17 (tgt := 22) (by decide) (fun h17 => ?_) (fun h17 => ?_)
        · have hF := tx_f h17 hF
          refine lv_iinc (k := 2) (v := (v2 + (1 : Int32))) hx hb d_M_isReadable_22 hl rfl rfl (by decide) rfl (fun ls hl => ?_)
          have hl : lv_has ls 3 [(2, .int (v2 + (1 : Int32))), (0, .ref q1), (1, .int v1)] := hl
          refine lv_goto hx hb d_M_isReadable_25 (tgt := 2) (by decide) ?_
          exact hrec0 _ v1 (v2 + (1 : Int32)) (lv_sub hl [1, 2, 0] rfl) hF
        · have hF := tx_t h17 hF
          refine lv_iconst (v := (0 : Int32)) hx hb d_M_isReadable_20 (by decide) ?_
          obtain ⟨hz, hF⟩ := tx_g hF
          have hz := Classical.not_not.mp hz
          exact W.zret hx hb hr (tx_z hz) (fun t ht hW => ⟨_, rfl, (Option.some.inj hF).symm, ht⟩) (fun q h => by cases h) d_M_isReadable_21
  obtain hrec0 := LH 100
  have hF : (f_M_isReadable_H 100 wd a1 (0 : Int32)) = some r := hF
  refine lv_iconst (v := (0 : Int32)) hx hb d_M_isReadable_0 (by decide) ?_
  refine lv_istore_n hx hb d_M_isReadable_1 rfl hl (by decide) rfl (fun ls hl => ?_)
  have hl : lv_has ls 3 [(2, .int (0 : Int32)), (0, .ref q1), (1, .int a1)] := hl
  exact hrec0 _ a1 (0 : Int32) (lv_sub hl [1, 2, 0] rfl) hF
abbrev rm_M_contentAt : Room := { frames := 3, cells := 0, slots := 0, locals := 68 }
set_option maxHeartbeats 4000000 in
set_option maxRecDepth 100000 in
theorem c_M_contentAt (l : Launch) (dC : Nat → ClassId) (dI : Nat → Nat → Nat) (cA : ClassId) (q1 q5 q6 : Nat) (wd er : Nat → Int32) (a1 : Int32) (r : Int64)  (hF : f_M_contentAt wd a1 = some r) : Met l y_M_contentAt ws_M_contentAt rm_M_contentAt (tx_PR [.ref q1, .int a1] (dC, dI) [(cA, .int)] (wM cA q1 q5 q6 wd er)) (vp_Sl (fun z => r = z)) 0 0 (fun _ => False) := by
  refine Met.ofW (cc := b_M_contentAt) (maxL := 7) (ret := some .long) (by decide +kernel) rfl ?_
  intro p e s m args below meth c s₁ B hml hv
  obtain ⟨hargs, hP, hK⟩ := hv
  have hx := B.exec
  have hb := B.bytes
  have hr := B.returns
  have hts := atoms_spec (ws := ws_M_contentAt) B.pre
  have hown : s.vm.findClass "FlashStore$Flash" = some m.cls := findClass_of_methodNamed B.named
  have hlocks := B.notSynchronized
  have hl := lv_entry ([.ref q1, .int a1]) (n := 7) (Nat.le_of_ble_eq_true rfl)
  have hen : entryFrame m args 7 = _ := (congrArg (fun z => entryFrame m z 7) hargs).trans (lg_entry_eq m ([.ref q1, .int a1]) 7)
  refine W.eq hen ?_
  clear hen
  generalize (lg_sl ([.ref q1, .int a1]) ++ List.replicate (7 - (lg_sl ([.ref q1, .int a1])).length) Slot.unset).toArray = ls at hl ⊢
  have hl : lv_has ls 7 [(0, .ref q1), (1, .int a1)] := hl
  have LH : ∀ n : Nat, (∀ (ls : Array Slot) (v1 : Int32) (v2 : Int64) (v4 : Int32), lv_has ls 7 [(0, .ref q1), (1, .int v1), (2, .long v2), (4, .int v4)] → f_M_contentAt_H n wd v1 v2 v4 = some r → W p l e (headSpec ws_M_contentAt rm_M_contentAt).room s m args below meth c s.heap [] 0 0 (MQ below (vp_Sl (fun z => r = z)) args s 0 0 (fun _ => False)) (F0 m 5 ls [])) := by
    intro n
    induction n with
    | zero =>
      exact (by intro ls v1 v2 v4 hl hF; have hF : (none : Option (Int64)) = _ := hF; cases hF)
    | succ n ih =>
      have hrec0 := ih
      intro ls v1 v2 v4 hl hF
      have hF : (if (4 : Int32) ≤ v4 then (some v2) else ((f_M_wordAt wd v1 v4).bind fun r15 => (f_C_mend r15).bind fun r18 => (f_C_dataOf r18).bind fun r21 => f_M_contentAt_H n wd v1 (v2 ||| (r21.toInt64 <<< ((v4 * (16 : Int32)).toInt64 &&& 63))) (v4 + (1 : Int32)))) = some r := hF
      refine lv_iload hx hb d_M_contentAt_5 (lv_at hl 3 rfl) ?_
      refine lv_iconst (v := (4 : Int32)) hx hb d_M_contentAt_7 (by decide) ?_
      refine lv_icmp_ge hx hb d_M_contentAt_8 (tgt := 44) (by decide) (fun h8 => ?_) (fun h8 => ?_)
      · have hF := tx_t h8 hF
        refine lv_lload_n hx hb d_M_contentAt_44 rfl (lv_at hl 2 rfl) ?_
        exact W.lret hx hb hr (fun t ht hW => ⟨_, rfl, (Option.some.inj hF).symm, ht⟩) (fun q h => by cases h) d_M_contentAt_45
      · have hF := tx_f h8 hF
        refine lv_aload_n hx hb d_M_contentAt_11 rfl (lv_at hl 0 rfl) ?_
        refine lv_iload_n hx hb d_M_contentAt_12 rfl (lv_at hl 1 rfl) ?_
        refine lv_iload hx hb d_M_contentAt_13 (lv_at hl 3 rfl) ?_
        obtain ⟨r15, hc15, hF⟩ := tx_b hF
        refine vp_callSi (W.runV (As := [.int v1, .int v4]) (rest := []) ⟨hx, hb, hml, hown, hts⟩ (c_M_wordAt l dC dI cA q1 q5 q6 wd er v1 v4 r15 hc15) (cwV 2 hts (tg_V bq_1_72 bq_1_73 bq_1_74 bq_1_2 bq_1_75) rfl rfl rfl (by decide +kernel) ⟨Nat.le_of_ble_eq_true rfl, Nat.le_of_ble_eq_true rfl⟩) ⟨tx_blR, (va_recv (ci := 0) (q0 := 0) hK hP rfl rfl), tx_preR (hP) hK⟩ rfl rfl hl.1 rfl (lv_room (Nat.le_of_ble_eq_true rfl)) d_M_contentAt_15 ⟨Nat.zero_le _, Nat.zero_le _⟩) (fun zz hz => ?_)
        subst hz
        obtain ⟨r18, hc18, hF⟩ := tx_b hF
        refine vp_callSi (W.runS (As := [.int r15]) (rest := []) ⟨hx, hb, hml, hown, hts⟩ (c_C_mend l r15 r18 hc18) (va_cwS 1 hts (tg_S bq_1_76 bq_1_77 bq_1_9 bq_1_78) rfl rfl rfl (by decide +kernel) ⟨Nat.le_of_ble_eq_true rfl, Nat.le_of_ble_eq_true rfl⟩) ⟨tx_bl0, tx_pre0⟩ rfl rfl hl.1 rfl (lv_room (Nat.le_of_ble_eq_true rfl)) d_M_contentAt_18 ⟨Nat.zero_le _, Nat.zero_le _⟩) (fun zz hz => ?_)
        subst hz
        obtain ⟨r21, hc21, hF⟩ := tx_b hF
        refine vp_callSi (W.runS (As := [.int r18]) (rest := []) ⟨hx, hb, hml, hown, hts⟩ (c_C_dataOf l r18 r21 hc21) (va_cwS 1 hts (tg_S bq_1_100 bq_1_101 bq_1_9 bq_1_102) rfl rfl rfl (by decide +kernel) ⟨Nat.le_of_ble_eq_true rfl, Nat.le_of_ble_eq_true rfl⟩) ⟨tx_bl0, tx_pre0⟩ rfl rfl hl.1 rfl (lv_room (Nat.le_of_ble_eq_true rfl)) d_M_contentAt_21 ⟨Nat.zero_le _, Nat.zero_le _⟩) (fun zz hz => ?_)
        subst hz
        refine lv_i2l hx hb d_M_contentAt_24 rfl ?_
        refine lv_lstore hx hb d_M_contentAt_25 hl (by decide) rfl (fun ls hl => ?_)
        have hl : lv_has ls 7 [(5, .long r21.toInt64), (0, .ref q1), (1, .int v1), (2, .long v2), (4, .int v4)] := hl
        refine lv_lload_n hx hb d_M_contentAt_27 rfl (lv_at hl 3 rfl) ?_
        refine lv_lload hx hb d_M_contentAt_28 (lv_at hl 0 rfl) ?_
        refine lv_iload hx hb d_M_contentAt_30 (lv_at hl 4 rfl) ?_
        refine lv_bipush (v := (16 : Int32)) hx hb d_M_contentAt_32 (by decide) ?_
        refine lv_imul hx hb d_M_contentAt_34 ?_
        refine lv_lshl hx hb d_M_contentAt_35 rfl ?_
        refine lv_lor hx hb d_M_contentAt_36 ?_
        refine lv_lstore_n hx hb d_M_contentAt_37 rfl hl (by decide) rfl (fun ls hl => ?_)
        have hl : lv_has ls 7 [(2, .long (v2 ||| (r21.toInt64 <<< ((v4 * (16 : Int32)).toInt64 &&& 63)))), (5, .long r21.toInt64), (0, .ref q1), (1, .int v1), (4, .int v4)] := hl
        refine lv_iinc (k := 4) (v := (v4 + (1 : Int32))) hx hb d_M_contentAt_38 hl rfl rfl (by decide) rfl (fun ls hl => ?_)
        have hl : lv_has ls 7 [(4, .int (v4 + (1 : Int32))), (2, .long (v2 ||| (r21.toInt64 <<< ((v4 * (16 : Int32)).toInt64 &&& 63)))), (5, .long r21.toInt64), (0, .ref q1), (1, .int v1)] := hl
        refine lv_goto hx hb d_M_contentAt_41 (tgt := 5) (by decide) ?_
        exact hrec0 _ v1 (v2 ||| (r21.toInt64 <<< ((v4 * (16 : Int32)).toInt64 &&& 63))) (v4 + (1 : Int32)) (lv_sub hl [3, 4, 1, 0] rfl) hF
  obtain hrec0 := LH 100
  have hF : (f_M_contentAt_H 100 wd a1 (0 : Int64) (0 : Int32)) = some r := hF
  refine lv_lconst (v := (0 : Int64)) hx hb d_M_contentAt_0 (by decide) ?_
  refine lv_lstore_n hx hb d_M_contentAt_1 rfl hl (by decide) rfl (fun ls hl => ?_)
  have hl : lv_has ls 7 [(2, .long (0 : Int64)), (0, .ref q1), (1, .int a1)] := hl
  refine lv_iconst (v := (0 : Int32)) hx hb d_M_contentAt_2 (by decide) ?_
  refine lv_istore hx hb d_M_contentAt_3 hl (by decide) rfl (fun ls hl => ?_)
  have hl : lv_has ls 7 [(4, .int (0 : Int32)), (2, .long (0 : Int64)), (0, .ref q1), (1, .int a1)] := hl
  exact hrec0 _ a1 (0 : Int64) (0 : Int32) (lv_sub hl [2, 3, 1, 0] rfl) hF
end
section
abbrev rm_F_blockOf : Room := { frames := 0, cells := 0, slots := 0, locals := 0 }
set_option maxHeartbeats 4000000 in
set_option maxRecDepth 100000 in
theorem c_F_blockOf (l : Launch) (a1 : Int32) (r : Int32)  (hF : f_F_blockOf a1 = some r) : Met l y_F_blockOf ws_F_blockOf rm_F_blockOf (va_Pc [.int a1] (fun _ => True)) (vp_Si (fun z => r = z)) 0 0 (fun _ => False) := by
  refine Met.ofW (cc := b_F_blockOf) (maxL := 1) (ret := some .int) (by decide +kernel) rfl ?_
  intro p e s m args below meth c s₁ B hml hv
  obtain ⟨hargs, -⟩ := hv
  have hx := B.exec
  have hb := B.bytes
  have hr := B.returns
  have hts := atoms_spec (ws := ws_F_blockOf) B.pre
  have hown : s.vm.findClass "FlashStore" = some m.cls := findClass_of_methodNamed B.named
  have hlocks := B.notSynchronized
  have hl := lv_entry ([.int a1]) (n := 1) (Nat.le_of_ble_eq_true rfl)
  have hen : entryFrame m args 1 = _ := (congrArg (fun z => entryFrame m z 1) hargs).trans (lg_entry_eq m ([.int a1]) 1)
  refine W.eq hen ?_
  clear hen
  generalize (lg_sl ([.int a1]) ++ List.replicate (1 - (lg_sl ([.int a1])).length) Slot.unset).toArray = ls at hl ⊢
  have hl : lv_has ls 1 [(0, .int a1)] := hl
  have hF : (some (a1 / (4 : Int32))) = some r := hF
  refine lv_iload_n hx hb d_F_blockOf_0 rfl (lv_at hl 0 rfl) ?_
  refine lv_iconst (v := (4 : Int32)) hx hb d_F_blockOf_1 (by decide) ?_
  refine lv_idiv hx hb d_F_blockOf_2 (by decide) ?_
  exact W.iret hx hb hr (fun t ht hW => ⟨_, rfl, (Option.some.inj hF).symm, ht⟩) (fun q h => by cases h) d_F_blockOf_3
abbrev rm_F_isSpoilt : Room := { frames := 0, cells := 0, slots := 0, locals := 0 }
set_option maxHeartbeats 4000000 in
set_option maxRecDepth 100000 in
theorem c_F_isSpoilt (l : Launch) (a1 : Int32) (r : Int32)  (hF : f_F_isSpoilt a1 = some r) : Met l y_F_isSpoilt ws_F_isSpoilt rm_F_isSpoilt (va_Pc [.int a1] (fun _ => True)) (vp_Si (fun z => r = z)) 0 0 (fun _ => False) := by
  refine Met.ofW (cc := b_F_isSpoilt) (maxL := 1) (ret := some .boolean) (by decide +kernel) rfl ?_
  intro p e s m args below meth c s₁ B hml hv
  obtain ⟨hargs, -⟩ := hv
  have hx := B.exec
  have hb := B.bytes
  have hr := B.returns
  have hts := atoms_spec (ws := ws_F_isSpoilt) B.pre
  have hown : s.vm.findClass "FlashStore" = some m.cls := findClass_of_methodNamed B.named
  have hlocks := B.notSynchronized
  have hl := lv_entry ([.int a1]) (n := 1) (Nat.le_of_ble_eq_true rfl)
  have hen : entryFrame m args 1 = _ := (congrArg (fun z => entryFrame m z 1) hargs).trans (lg_entry_eq m ([.int a1]) 1)
  refine W.eq hen ?_
  clear hen
  generalize (lg_sl ([.int a1]) ++ List.replicate (1 - (lg_sl ([.int a1])).length) Slot.unset).toArray = ls at hl ⊢
  have hl : lv_has ls 1 [(0, .int a1)] := hl
  have J19 : ∀ (ls : Array Slot) (z0 : Int32), lv_has ls 1 [] → f_F_isSpoilt_J19 z0 = some r → W p l e (headSpec ws_F_isSpoilt rm_F_isSpoilt).room s m args below meth c s.heap [] 0 0 (MQ below (vp_Si (fun z => r = z)) args s 0 0 (fun _ => False)) (F0 m 19 ls [.int z0]) := by
    intro ls z0 hl hF
    have hF : (if ¬ (z0 = 0 ∨ z0 = 1) then none else some z0) = some r := hF
    obtain ⟨hz, hF⟩ := tx_g hF
    have hz := Classical.not_not.mp hz
    exact W.zret hx hb hr (tx_z hz) (fun t ht hW => ⟨_, rfl, (Option.some.inj hF).symm, ht⟩) (fun q h => by cases h) d_F_isSpoilt_19
  have J14 : ∀ (ls : Array Slot), lv_has ls 1 [] → f_F_isSpoilt_J14  = some r → W p l e (headSpec ws_F_isSpoilt rm_F_isSpoilt).room s m args below meth c s.heap [] 0 0 (MQ below (vp_Si (fun z => r = z)) args s 0 0 (fun _ => False)) (F0 m 14 ls []) := by
    intro ls hl hF
    have hF : (f_F_isSpoilt_J19 (1 : Int32)) = some r := hF
    refine lv_iconst (v := (1 : Int32)) hx hb d_F_isSpoilt_14 (by decide) ?_
    refine lv_goto hx hb d_F_isSpoilt_15 (tgt := 19) (by decide) ?_
    exact J19 _ (1 : Int32) hl hF
  have hF : (if a1 = (-1 : Int32) then (f_F_isSpoilt_J14 ) else (if ((a1.toUInt32 >>> ((12 : Int32).toUInt32 &&& Int32.toUInt32 31)).toInt32) < (8 : Int32) then (f_F_isSpoilt_J19 (0 : Int32)) else (f_F_isSpoilt_J14 ))) = some r := hF
  refine lv_iload_n hx hb d_F_isSpoilt_0 rfl (lv_at hl 0 rfl) ?_
  refine lv_iconst (v := (-1 : Int32)) hx hb d_F_isSpoilt_1 (by decide) ?_
  refine lv_icmp_eq hx hb d_F_isSpoilt_2 (tgt := 14) (by decide) (fun h2 => ?_) (fun h2 => ?_)
  · have hF := tx_t h2 hF
    exact J14 _ (lv_sub hl [] rfl) hF
  · have hF := tx_f h2 hF
    refine lv_iload_n hx hb d_F_isSpoilt_5 rfl (lv_at hl 0 rfl) ?_
    refine lv_bipush (v := (12 : Int32)) hx hb d_F_isSpoilt_6 (by decide) ?_
    refine lv_iushr hx hb d_F_isSpoilt_8 rfl ?_
    refine lv_bipush (v := (8 : Int32)) hx hb d_F_isSpoilt_9 (by decide) ?_
    refine lv_icmp_lt hx hb d_F_isSpoilt_11 (tgt := 18) (by decide) (fun h11 => ?_) (fun h11 => ?_)
    · have hF := tx_t h11 hF
      refine lv_iconst (v := (0 : Int32)) hx hb d_F_isSpoilt_18 (by decide) ?_
      exact J19 _ (0 : Int32) (lv_sub hl [] rfl) hF
    · have hF := tx_f h11 hF
      exact J14 _ (lv_sub hl [] rfl) hF
abbrev rm_F_isNewer : Room := { frames := 1, cells := 0, slots := 0, locals := 22 }
set_option maxHeartbeats 4000000 in
set_option maxRecDepth 100000 in
theorem c_F_isNewer (l : Launch) (a1 : Int32) (a2 : Int32) (r : Int32)  (hF : f_F_isNewer a1 a2 = some r) : Met l y_F_isNewer ws_F_isNewer rm_F_isNewer (va_Pc [.int a1, .int a2] (fun _ => True)) (vp_Si (fun z => r = z)) 0 0 (fun _ => False) := by
  refine Met.ofW (cc := b_F_isNewer) (maxL := 3) (ret := some .boolean) (by decide +kernel) rfl ?_
  intro p e s m args below meth c s₁ B hml hv
  obtain ⟨hargs, -⟩ := hv
  have hx := B.exec
  have hb := B.bytes
  have hr := B.returns
  have hts := atoms_spec (ws := ws_F_isNewer) B.pre
  have hown : s.vm.findClass "FlashStore" = some m.cls := findClass_of_methodNamed B.named
  have hlocks := B.notSynchronized
  have hl := lv_entry ([.int a1, .int a2]) (n := 3) (Nat.le_of_ble_eq_true rfl)
  have hen : entryFrame m args 3 = _ := (congrArg (fun z => entryFrame m z 3) hargs).trans (lg_entry_eq m ([.int a1, .int a2]) 3)
  refine W.eq hen ?_
  clear hen
  generalize (lg_sl ([.int a1, .int a2]) ++ List.replicate (3 - (lg_sl ([.int a1, .int a2])).length) Slot.unset).toArray = ls at hl ⊢
  have hl : lv_has ls 3 [(0, .int a1), (1, .int a2)] := hl
  have J27 : ∀ (ls : Array Slot) (z0 : Int32), lv_has ls 3 [] → f_F_isNewer_J27 z0 = some r → W p l e (headSpec ws_F_isNewer rm_F_isNewer).room s m args below meth c s.heap [] 0 0 (MQ below (vp_Si (fun z => r = z)) args s 0 0 (fun _ => False)) (F0 m 27 ls [.int z0]) := by
    intro ls z0 hl hF
    have hF : (if ¬ (z0 = 0 ∨ z0 = 1) then none else some z0) = some r := hF
    obtain ⟨hz, hF⟩ := tx_g hF
    have hz := Classical.not_not.mp hz
    exact W.zret hx hb hr (tx_z hz) (fun t ht hW => ⟨_, rfl, (Option.some.inj hF).symm, ht⟩) (fun q h => by cases h) d_F_isNewer_27
  have J26 : ∀ (ls : Array Slot), lv_has ls 3 [] → f_F_isNewer_J26  = some r → W p l e (headSpec ws_F_isNewer rm_F_isNewer).room s m args below meth c s.heap [] 0 0 (MQ below (vp_Si (fun z => r = z)) args s 0 0 (fun _ => False)) (F0 m 26 ls []) := by
    intro ls hl hF
    have hF : (f_F_isNewer_J27 (0 : Int32)) = some r := hF
    refine lv_iconst (v := (0 : Int32)) hx hb d_F_isNewer_26 (by decide) ?_
    exact J27 _ (0 : Int32) hl hF
  have hF : ((f_U_floorMod (a1 - a2) (4095 : Int32)).bind fun r6 => if r6 < (1 : Int32) then (f_F_isNewer_J26 ) else (if (2000 : Int32) < r6 then (f_F_isNewer_J26 ) else (f_F_isNewer_J27 (1 : Int32)))) = some r := hF
  refine lv_iload_n hx hb d_F_isNewer_0 rfl (lv_at hl 0 rfl) ?_
  refine lv_iload_n hx hb d_F_isNewer_1 rfl (lv_at hl 1 rfl) ?_
  refine lv_isub hx hb d_F_isNewer_2 ?_
  refine lv_sipush (v := (4095 : Int32)) hx hb d_F_isNewer_3 (by decide) ?_
  obtain ⟨r6, hc6, hF⟩ := tx_b hF
  refine vp_callSi (W.runS (As := [.int (a1 - a2), .int (4095 : Int32)]) (rest := []) ⟨hx, hb, hml, hown, hts⟩ (c_U_floorMod l (a1 - a2) (4095 : Int32) r6 hc6) (va_cwS 2 hts (tg_S bq_1_114 bq_1_115 bq_1_13 bq_1_116) rfl rfl rfl (by decide +kernel) ⟨Nat.le_of_ble_eq_true rfl, Nat.le_of_ble_eq_true rfl⟩) ⟨tx_bl0, tx_pre0⟩ rfl rfl hl.1 rfl (lv_room (Nat.le_of_ble_eq_true rfl)) d_F_isNewer_6 ⟨Nat.zero_le _, Nat.zero_le _⟩) (fun zz hz => ?_)
  subst hz
  refine lv_istore_n hx hb d_F_isNewer_9 rfl hl (by decide) rfl (fun ls hl => ?_)
  have hl : lv_has ls 3 [(2, .int r6), (0, .int a1), (1, .int a2)] := hl
  refine lv_iload_n hx hb d_F_isNewer_10 rfl (lv_at hl 0 rfl) ?_
  refine lv_iconst (v := (1 : Int32)) hx hb d_F_isNewer_11 (by decide) ?_
  refine lv_icmp_lt hx hb d_F_isNewer_12 (tgt := 26) (by decide) (fun h12 => ?_) (fun h12 => ?_)
  · have hF := tx_t h12 hF
    exact J26 _ (lv_sub hl [] rfl) hF
  · have hF := tx_f h12 hF
    refine lv_iload_n hx hb d_F_isNewer_15 rfl (lv_at hl 0 rfl) ?_
    refine lv_sipush (v := (2000 : Int32)) hx hb d_F_isNewer_16 (by decide) ?_
    refine lv_icmp_gt hx hb d_F_isNewer_19 (tgt := 26) (by decide) (fun h19 => ?_) (fun h19 => ?_)
    · have hF := tx_t h19 hF
      exact J26 _ (lv_sub hl [] rfl) hF
    · have hF := tx_f h19 hF
      refine lv_iconst (v := (1 : Int32)) hx hb d_F_isNewer_22 (by decide) ?_
      refine lv_goto hx hb d_F_isNewer_23 (tgt := 27) (by decide) ?_
      exact J27 _ (1 : Int32) (lv_sub hl [] rfl) hF
abbrev rm_F_serialBehind : Room := { frames := 0, cells := 0, slots := 0, locals := 0 }
set_option maxHeartbeats 4000000 in
set_option maxRecDepth 100000 in
theorem c_F_serialBehind (l : Launch) (a1 : Int32) (r : Int32)  (hF : f_F_serialBehind a1 = some r) : Met l y_F_serialBehind ws_F_serialBehind rm_F_serialBehind (va_Pc [.int a1] (fun _ => True)) (vp_Si (fun z => r = z)) 0 0 (fun _ => False) := by
  refine Met.ofW (cc := b_F_serialBehind) (maxL := 1) (ret := some .int) (by decide +kernel) rfl ?_
  intro p e s m args below meth c s₁ B hml hv
  obtain ⟨hargs, -⟩ := hv
  have hx := B.exec
  have hb := B.bytes
  have hr := B.returns
  have hts := atoms_spec (ws := ws_F_serialBehind) B.pre
  have hown : s.vm.findClass "FlashStore" = some m.cls := findClass_of_methodNamed B.named
  have hlocks := B.notSynchronized
  have hl := lv_entry ([.int a1]) (n := 1) (Nat.le_of_ble_eq_true rfl)
  have hen : entryFrame m args 1 = _ := (congrArg (fun z => entryFrame m z 1) hargs).trans (lg_entry_eq m ([.int a1]) 1)
  refine W.eq hen ?_
  clear hen
  generalize (lg_sl ([.int a1]) ++ List.replicate (1 - (lg_sl ([.int a1])).length) Slot.unset).toArray = ls at hl ⊢
  have hl : lv_has ls 1 [(0, .int a1)] := hl
  have hF : (some ((a1 + (1 : Int32)) - (a1 + (1 : Int32)) / (4095 : Int32) * (4095 : Int32))) = some r := hF
  refine lv_iload_n hx hb d_F_serialBehind_0 rfl (lv_at hl 0 rfl) ?_
  refine lv_iconst (v := (1 : Int32)) hx hb d_F_serialBehind_1 (by decide) ?_
  refine lv_iadd hx hb d_F_serialBehind_2 ?_
  refine lv_sipush (v := (4095 : Int32)) hx hb d_F_serialBehind_3 (by decide) ?_
  refine lv_irem hx hb d_F_serialBehind_6 (by decide) ?_
  exact W.iret hx hb hr (fun t ht hW => ⟨_, rfl, (Option.some.inj hF).symm, ht⟩) (fun q h => by cases h) d_F_serialBehind_7
abbrev rm_F_requireLogicalPage : Room := { frames := 0, cells := 0, slots := 0, locals := 0 }
set_option maxHeartbeats 4000000 in
set_option maxRecDepth 100000 in
theorem c_F_requireLogicalPage (l : Launch) (a1 : Int32)  (_u : Unit) (hF : f_F_requireLogicalPage a1 = some _u) : Met l y_F_requireLogicalPage ws_F_requireLogicalPage rm_F_requireLogicalPage (va_Pc [.int a1] (fun _ => True)) (va_Sv (fun _ => True)) 0 0 (fun _ => False) := by
  refine Met.ofW (cc := b_F_requireLogicalPage) (maxL := 1) (ret := none) (by decide +kernel) rfl ?_
  intro p e s m args below meth c s₁ B hml hv
  obtain ⟨hargs, -⟩ := hv
  have hx := B.exec
  have hb := B.bytes
  have hr := B.returns
  have hts := atoms_spec (ws := ws_F_requireLogicalPage) B.pre
  have hown : s.vm.findClass "FlashStore" = some m.cls := findClass_of_methodNamed B.named
  have hlocks := B.notSynchronized
  have hl := lv_entry ([.int a1]) (n := 1) (Nat.le_of_ble_eq_true rfl)
  have hen : entryFrame m args 1 = _ := (congrArg (fun z => entryFrame m z 1) hargs).trans (lg_entry_eq m ([.int a1]) 1)
  refine W.eq hen ?_
  clear hen
  generalize (lg_sl ([.int a1]) ++ List.replicate (1 - (lg_sl ([.int a1])).length) Slot.unset).toArray = ls at hl ⊢
  have hl : lv_has ls 1 [(0, .int a1)] := hl
  have J10 : ∀ (ls : Array Slot), lv_has ls 1 [] → f_F_requireLogicalPage_J10  = some () → W p l e (headSpec ws_F_requireLogicalPage rm_F_requireLogicalPage).room s m args below meth c s.heap [] 0 0 (MQ below (va_Sv (fun _ => True)) args s 0 0 (fun _ => False)) (F0 m 10 ls []) := by
    intro ls hl hF
    have hF : (none) = some () := hF
    cases hF
  have hF : (if a1 < 0 then (f_F_requireLogicalPage_J10 ) else (if a1 < (8 : Int32) then (some ()) else (f_F_requireLogicalPage_J10 ))) = some _u := hF
  refine lv_iload_n hx hb d_F_requireLogicalPage_0 rfl (lv_at hl 0 rfl) ?_
  refine lv_if_lt hx hb d_F_requireLogicalPage_1 (tgt := 10) (by decide) (fun h1 => ?_) (fun h1 => ?_)
  · have hF := tx_t h1 hF
    exact J10 _ (lv_sub hl [] rfl) hF
  · have hF := tx_f h1 hF
    refine lv_iload_n hx hb d_F_requireLogicalPage_4 rfl (lv_at hl 0 rfl) ?_
    refine lv_bipush (v := (8 : Int32)) hx hb d_F_requireLogicalPage_5 (by decide) ?_
    refine lv_icmp_lt hx hb d_F_requireLogicalPage_7 (tgt := 20) (by decide) (fun h7 => ?_) (fun h7 => ?_)
    · have hF := tx_t h7 hF
      exact W.vret hx hb hr (fun t ht hW => ⟨rfl, trivial, ht⟩) (fun q h => by cases h) d_F_requireLogicalPage_20
    · have hF := tx_f h7 hF
      exact J10 _ (lv_sub hl [] rfl) hF
abbrev rm_F_requireBlock : Room := { frames := 0, cells := 0, slots := 0, locals := 0 }
set_option maxHeartbeats 4000000 in
set_option maxRecDepth 100000 in
theorem c_F_requireBlock (l : Launch) (a1 : Int32)  (_u : Unit) (hF : f_F_requireBlock a1 = some _u) : Met l y_F_requireBlock ws_F_requireBlock rm_F_requireBlock (va_Pc [.int a1] (fun _ => True)) (va_Sv (fun _ => True)) 0 0 (fun _ => False) := by
  refine Met.ofW (cc := b_F_requireBlock) (maxL := 1) (ret := none) (by decide +kernel) rfl ?_
  intro p e s m args below meth c s₁ B hml hv
  obtain ⟨hargs, -⟩ := hv
  have hx := B.exec
  have hb := B.bytes
  have hr := B.returns
  have hts := atoms_spec (ws := ws_F_requireBlock) B.pre
  have hown : s.vm.findClass "FlashStore" = some m.cls := findClass_of_methodNamed B.named
  have hlocks := B.notSynchronized
  have hl := lv_entry ([.int a1]) (n := 1) (Nat.le_of_ble_eq_true rfl)
  have hen : entryFrame m args 1 = _ := (congrArg (fun z => entryFrame m z 1) hargs).trans (lg_entry_eq m ([.int a1]) 1)
  refine W.eq hen ?_
  clear hen
  generalize (lg_sl ([.int a1]) ++ List.replicate (1 - (lg_sl ([.int a1])).length) Slot.unset).toArray = ls at hl ⊢
  have hl : lv_has ls 1 [(0, .int a1)] := hl
  have J9 : ∀ (ls : Array Slot), lv_has ls 1 [] → f_F_requireBlock_J9  = some () → W p l e (headSpec ws_F_requireBlock rm_F_requireBlock).room s m args below meth c s.heap [] 0 0 (MQ below (va_Sv (fun _ => True)) args s 0 0 (fun _ => False)) (F0 m 9 ls []) := by
    intro ls hl hF
    have hF : (none) = some () := hF
    cases hF
  have hF : (if a1 < 0 then (f_F_requireBlock_J9 ) else (if a1 < (4 : Int32) then (some ()) else (f_F_requireBlock_J9 ))) = some _u := hF
  refine lv_iload_n hx hb d_F_requireBlock_0 rfl (lv_at hl 0 rfl) ?_
  refine lv_if_lt hx hb d_F_requireBlock_1 (tgt := 9) (by decide) (fun h1 => ?_) (fun h1 => ?_)
  · have hF := tx_t h1 hF
    exact J9 _ (lv_sub hl [] rfl) hF
  · have hF := tx_f h1 hF
    refine lv_iload_n hx hb d_F_requireBlock_4 rfl (lv_at hl 0 rfl) ?_
    refine lv_iconst (v := (4 : Int32)) hx hb d_F_requireBlock_5 (by decide) ?_
    refine lv_icmp_lt hx hb d_F_requireBlock_6 (tgt := 19) (by decide) (fun h6 => ?_) (fun h6 => ?_)
    · have hF := tx_t h6 hF
      exact W.vret hx hb hr (fun t ht hW => ⟨rfl, trivial, ht⟩) (fun q h => by cases h) d_F_requireBlock_19
    · have hF := tx_f h6 hF
      exact J9 _ (lv_sub hl [] rfl) hF
abbrev rm_F_requirePageOfBlock : Room := { frames := 0, cells := 0, slots := 0, locals := 0 }
set_option maxHeartbeats 4000000 in
set_option maxRecDepth 100000 in
theorem c_F_requirePageOfBlock (l : Launch) (a1 : Int32)  (_u : Unit) (hF : f_F_requirePageOfBlock a1 = some _u) : Met l y_F_requirePageOfBlock ws_F_requirePageOfBlock rm_F_requirePageOfBlock (va_Pc [.int a1] (fun _ => True)) (va_Sv (fun _ => True)) 0 0 (fun _ => False) := by
  refine Met.ofW (cc := b_F_requirePageOfBlock) (maxL := 1) (ret := none) (by decide +kernel) rfl ?_
  intro p e s m args below meth c s₁ B hml hv
  obtain ⟨hargs, -⟩ := hv
  have hx := B.exec
  have hb := B.bytes
  have hr := B.returns
  have hts := atoms_spec (ws := ws_F_requirePageOfBlock) B.pre
  have hown : s.vm.findClass "FlashStore" = some m.cls := findClass_of_methodNamed B.named
  have hlocks := B.notSynchronized
  have hl := lv_entry ([.int a1]) (n := 1) (Nat.le_of_ble_eq_true rfl)
  have hen : entryFrame m args 1 = _ := (congrArg (fun z => entryFrame m z 1) hargs).trans (lg_entry_eq m ([.int a1]) 1)
  refine W.eq hen ?_
  clear hen
  generalize (lg_sl ([.int a1]) ++ List.replicate (1 - (lg_sl ([.int a1])).length) Slot.unset).toArray = ls at hl ⊢
  have hl : lv_has ls 1 [(0, .int a1)] := hl
  have J9 : ∀ (ls : Array Slot), lv_has ls 1 [] → f_F_requirePageOfBlock_J9  = some () → W p l e (headSpec ws_F_requirePageOfBlock rm_F_requirePageOfBlock).room s m args below meth c s.heap [] 0 0 (MQ below (va_Sv (fun _ => True)) args s 0 0 (fun _ => False)) (F0 m 9 ls []) := by
    intro ls hl hF
    have hF : (none) = some () := hF
    cases hF
  have hF : (if a1 < 0 then (f_F_requirePageOfBlock_J9 ) else (if a1 < (4 : Int32) then (some ()) else (f_F_requirePageOfBlock_J9 ))) = some _u := hF
  refine lv_iload_n hx hb d_F_requirePageOfBlock_0 rfl (lv_at hl 0 rfl) ?_
  refine lv_if_lt hx hb d_F_requirePageOfBlock_1 (tgt := 9) (by decide) (fun h1 => ?_) (fun h1 => ?_)
  · have hF := tx_t h1 hF
    exact J9 _ (lv_sub hl [] rfl) hF
  · have hF := tx_f h1 hF
    refine lv_iload_n hx hb d_F_requirePageOfBlock_4 rfl (lv_at hl 0 rfl) ?_
    refine lv_iconst (v := (4 : Int32)) hx hb d_F_requirePageOfBlock_5 (by decide) ?_
    refine lv_icmp_lt hx hb d_F_requirePageOfBlock_6 (tgt := 19) (by decide) (fun h6 => ?_) (fun h6 => ?_)
    · have hF := tx_t h6 hF
      exact W.vret hx hb hr (fun t ht hW => ⟨rfl, trivial, ht⟩) (fun q h => by cases h) d_F_requirePageOfBlock_19
    · have hF := tx_f h6 hF
      exact J9 _ (lv_sub hl [] rfl) hF
abbrev rm_F_requireWord : Room := { frames := 1, cells := 0, slots := 0, locals := 20 }
set_option maxHeartbeats 4000000 in
set_option maxRecDepth 100000 in
theorem c_F_requireWord (l : Launch) (a1 : Int32) (a2 : Int32) (a3 : Int32)  (_u : Unit) (hF : f_F_requireWord a1 a2 a3 = some _u) : Met l y_F_requireWord ws_F_requireWord rm_F_requireWord (va_Pc [.int a1, .int a2, .int a3] (fun _ => True)) (va_Sv (fun _ => True)) 0 0 (fun _ => False) := by
  refine Met.ofW (cc := b_F_requireWord) (maxL := 3) (ret := none) (by decide +kernel) rfl ?_
  intro p e s m args below meth c s₁ B hml hv
  obtain ⟨hargs, -⟩ := hv
  have hx := B.exec
  have hb := B.bytes
  have hr := B.returns
  have hts := atoms_spec (ws := ws_F_requireWord) B.pre
  have hown : s.vm.findClass "FlashStore" = some m.cls := findClass_of_methodNamed B.named
  have hlocks := B.notSynchronized
  have hl := lv_entry ([.int a1, .int a2, .int a3]) (n := 3) (Nat.le_of_ble_eq_true rfl)
  have hen : entryFrame m args 3 = _ := (congrArg (fun z => entryFrame m z 3) hargs).trans (lg_entry_eq m ([.int a1, .int a2, .int a3]) 3)
  refine W.eq hen ?_
  clear hen
  generalize (lg_sl ([.int a1, .int a2, .int a3]) ++ List.replicate (3 - (lg_sl ([.int a1, .int a2, .int a3])).length) Slot.unset).toArray = ls at hl ⊢
  have hl : lv_has ls 3 [(0, .int a1), (1, .int a2), (2, .int a3)] := hl
  have J17 : ∀ (ls : Array Slot), lv_has ls 3 [] → f_F_requireWord_J17  = some () → W p l e (headSpec ws_F_requireWord rm_F_requireWord).room s m args below meth c s.heap [] 0 0 (MQ below (va_Sv (fun _ => True)) args s 0 0 (fun _ => False)) (F0 m 17 ls []) := by
    intro ls hl hF
    have hF : (none) = some () := hF
    cases hF
  have hF : ((f_F_requireBlock a1).bind fun _ => (f_F_requirePageOfBlock a2).bind fun _ => if a3 < 0 then (f_F_requireWord_J17 ) else (if a3 < (5 : Int32) then (some ()) else (f_F_requireWord_J17 ))) = some _u := hF
  refine lv_iload_n hx hb d_F_requireWord_0 rfl (lv_at hl 0 rfl) ?_
  obtain ⟨_u, hc1, hF⟩ := tx_b hF
  refine va_csv (W.runS (As := [.int a1]) (rest := []) ⟨hx, hb, hml, hown, hts⟩ (c_F_requireBlock l a1 _u hc1) (va_cwS 1 hts (tg_S bq_2_134 bq_2_135 bq_1_1 bq_2_136) rfl rfl rfl (by decide +kernel) ⟨Nat.le_of_ble_eq_true rfl, Nat.le_of_ble_eq_true rfl⟩) ⟨tx_bl0, tx_pre0⟩ rfl rfl hl.1 rfl (lv_room (Nat.le_of_ble_eq_true rfl)) d_F_requireWord_1 ⟨Nat.zero_le _, Nat.zero_le _⟩) (fun _ => ?_)
  refine lv_iload_n hx hb d_F_requireWord_4 rfl (lv_at hl 1 rfl) ?_
  obtain ⟨_u, hc5, hF⟩ := tx_b hF
  refine va_csv (W.runS (As := [.int a2]) (rest := []) ⟨hx, hb, hml, hown, hts⟩ (c_F_requirePageOfBlock l a2 _u hc5) (va_cwS 1 hts (tg_S bq_2_138 bq_2_139 bq_1_1 bq_2_140) rfl rfl rfl (by decide +kernel) ⟨Nat.le_of_ble_eq_true rfl, Nat.le_of_ble_eq_true rfl⟩) ⟨tx_bl0, tx_pre0⟩ rfl rfl hl.1 rfl (lv_room (Nat.le_of_ble_eq_true rfl)) d_F_requireWord_5 ⟨Nat.zero_le _, Nat.zero_le _⟩) (fun _ => ?_)
  refine lv_iload_n hx hb d_F_requireWord_8 rfl (lv_at hl 2 rfl) ?_
  refine lv_if_lt hx hb d_F_requireWord_9 (tgt := 17) (by decide) (fun h9 => ?_) (fun h9 => ?_)
  · have hF := tx_t h9 hF
    exact J17 _ (lv_sub hl [] rfl) hF
  · have hF := tx_f h9 hF
    refine lv_iload_n hx hb d_F_requireWord_12 rfl (lv_at hl 2 rfl) ?_
    refine lv_iconst (v := (5 : Int32)) hx hb d_F_requireWord_13 (by decide) ?_
    refine lv_icmp_lt hx hb d_F_requireWord_14 (tgt := 27) (by decide) (fun h14 => ?_) (fun h14 => ?_)
    · have hF := tx_t h14 hF
      exact W.vret hx hb hr (fun t ht hW => ⟨rfl, trivial, ht⟩) (fun q h => by cases h) d_F_requireWord_27
    · have hF := tx_f h14 hF
      exact J17 _ (lv_sub hl [] rfl) hF
abbrev rm_F_hold : Room := { frames := 0, cells := 0, slots := 0, locals := 0 }
set_option maxHeartbeats 4000000 in
set_option maxRecDepth 100000 in
theorem c_F_hold (l : Launch) (dC : Nat → ClassId) (dI : Nat → Nat → Nat) (cA : ClassId) (h0 q1 q2 q3 q4 q5 q6 sz : Nat) (st pl tk wd er : Nat → Int32) (nx md : Int32) (a1 : Int32) (a2 : Int32) (st' : Nat → Int32) (pl' : Nat → Int32) (hF : f_F_hold st pl a1 a2 = some (st', pl')) : Met l y_F_hold ws_F_hold rm_F_hold (tx_PW [.ref h0, .int a1, .int a2] (dC, dI) [(cA, .int)] (wF cA h0 q1 q2 q3 q4 q5 q6 st pl tk wd er nx md) sz) (va_Qv (S := Unit) (fun _ => True) (fun _ t => va_P (dC, dI) vwCl (wF cA h0 q1 q2 q3 q4 q5 q6 (st') (pl') tk wd er nx md) t.heap ∧ va_D (va_A (wF cA h0 q1 q2 q3 q4 q5 q6 st pl tk wd er nx md) sz) (wF cA h0 q1 q2 q3 q4 q5 q6 (st') (pl') tk wd er nx md)) (va_A (wF cA h0 q1 q2 q3 q4 q5 q6 st pl tk wd er nx md) sz)) 0 0 (va_A (wF cA h0 q1 q2 q3 q4 q5 q6 st pl tk wd er nx md) sz) := by
  refine Met.ofW (cc := b_F_hold) (maxL := 3) (ret := none) (by decide +kernel) rfl ?_
  intro p e s m args below meth c s₁ B hml hv
  obtain ⟨hargs, hsz, hP, hK, hD0, hNw⟩ := hv
  have hx := B.exec
  have hb := B.bytes
  have hr := B.returns
  have hts := atoms_spec (ws := ws_F_hold) B.pre
  have hown : s.vm.findClass "FlashStore" = some m.cls := findClass_of_methodNamed B.named
  have hlocks := B.notSynchronized
  subst hsz
  have hD := hD0.self (sz := s.heap.size)
  generalize hAe : va_A (wF cA h0 q1 q2 q3 q4 q5 q6 st pl tk wd er nx md) s.heap.size = A at hD ⊢
  have hA : ∀ q : Nat, s.heap.size ≤ q → A q := fun q h => by rw [← hAe]; exact Or.inr h
  have hS : va_S A s.heap s.heap [] := va_S.rf
  have hP : va_P (dC, dI) vwCl (wF cA h0 q1 q2 q3 q4 q5 q6 st pl tk wd er nx md) s.heap := hP
  have w0 := (hts _ (List.mem_cons_of_mem _ bq_1_42))
  have w1 := (hts _ (List.mem_cons_of_mem _ bq_1_43))
  have hl := lv_entry ([.ref h0, .int a1, .int a2]) (n := 3) (Nat.le_of_ble_eq_true rfl)
  have hen : entryFrame m args 3 = _ := (congrArg (fun z => entryFrame m z 3) hargs).trans (lg_entry_eq m ([.ref h0, .int a1, .int a2]) 3)
  refine W.eq hen ?_
  clear hen
  generalize (lg_sl ([.ref h0, .int a1, .int a2]) ++ List.replicate (3 - (lg_sl ([.ref h0, .int a1, .int a2])).length) Slot.unset).toArray = ls at hl ⊢
  have hl : lv_has ls 3 [(0, .ref h0), (1, .int a1), (2, .int a2)] := hl
  have hF : (if a2 < 0 ∨ 16 ≤ a2.toNatClampNeg then none else if a1 < 0 ∨ 8 ≤ a1.toNatClampNeg then none else some ((upd st a2.toNatClampNeg (1 : Int32)), (upd pl a1.toNatClampNeg a2))) = some (st', pl') := hF
  refine lv_aload_n hx hb d_F_hold_0 rfl (lv_at hl 0 rfl) ?_
  refine va_get (D := (dC, dI)) (ci := 1) (v := .ref q2) (C := "FlashStore") (T := TF) (N := 6) hx hb hts inTF hown hK hP 0 rfl rfl 1 (by decide) w0 (fun _ h9 => h9) rfl d_F_hold_1 ?_
  refine lv_iload_n hx hb d_F_hold_4 rfl (lv_at hl 2 rfl) ?_
  refine lv_iconst (v := (1 : Int32)) hx hb d_F_hold_5 (by decide) ?_
  obtain ⟨hi6, hF⟩ := tx_g hF
  refine va_iast hx hb hK hP hD hS 2 0 rfl rfl hi6 d_F_hold_6 (fun H locs hP hD hS => ?_)
  have hP : va_P (dC, dI) vwCl (wF cA h0 q1 q2 q3 q4 q5 q6 (upd st a2.toNatClampNeg (1 : Int32)) pl tk wd er nx md) H := hP
  have hD : va_D A (wF cA h0 q1 q2 q3 q4 q5 q6 (upd st a2.toNatClampNeg (1 : Int32)) pl tk wd er nx md) := hD
  refine lv_aload_n hx hb d_F_hold_7 rfl (lv_at hl 0 rfl) ?_
  refine va_get (D := (dC, dI)) (ci := 1) (v := .ref q3) (C := "FlashStore") (T := TF) (N := 6) hx hb hts inTF hown hK hP 0 rfl rfl 2 (by decide) w1 (fun _ h9 => h9) rfl d_F_hold_8 ?_
  refine lv_iload_n hx hb d_F_hold_11 rfl (lv_at hl 1 rfl) ?_
  refine lv_iload_n hx hb d_F_hold_12 rfl (lv_at hl 2 rfl) ?_
  obtain ⟨hi13, hF⟩ := tx_g hF
  refine va_iast hx hb hK hP hD hS 3 0 rfl rfl hi13 d_F_hold_13 (fun H locs hP hD hS => ?_)
  have hP : va_P (dC, dI) vwCl (wF cA h0 q1 q2 q3 q4 q5 q6 (upd st a2.toNatClampNeg (1 : Int32)) (upd pl a1.toNatClampNeg a2) tk wd er nx md) H := hP
  have hD : va_D A (wF cA h0 q1 q2 q3 q4 q5 q6 (upd st a2.toNatClampNeg (1 : Int32)) (upd pl a1.toNatClampNeg a2) tk wd er nx md) := hD
  cases hF
  exact W.vret hx hb hr (fun t ht hW => ⟨⟨(), rfl, trivial, by rw [ht]; exact hP, hD⟩, hS.F ht⟩) hS.2.2 d_F_hold_14
abbrev rm_F_forget : Room := { frames := 0, cells := 0, slots := 0, locals := 0 }
set_option maxHeartbeats 4000000 in
set_option maxRecDepth 100000 in
theorem c_F_forget (l : Launch) (dC : Nat → ClassId) (dI : Nat → Nat → Nat) (cA : ClassId) (h0 q1 q2 q3 q4 q5 q6 sz : Nat) (st pl tk wd er : Nat → Int32) (nx md : Int32) (a1 : Int32) (st' : Nat → Int32) (pl' : Nat → Int32) (hF : f_F_forget st pl a1 = some (st', pl')) : Met l y_F_forget ws_F_forget rm_F_forget (tx_PW [.ref h0, .int a1] (dC, dI) [(cA, .int)] (wF cA h0 q1 q2 q3 q4 q5 q6 st pl tk wd er nx md) sz) (va_Qv (S := Unit) (fun _ => True) (fun _ t => va_P (dC, dI) vwCl (wF cA h0 q1 q2 q3 q4 q5 q6 (st') (pl') tk wd er nx md) t.heap ∧ va_D (va_A (wF cA h0 q1 q2 q3 q4 q5 q6 st pl tk wd er nx md) sz) (wF cA h0 q1 q2 q3 q4 q5 q6 (st') (pl') tk wd er nx md)) (va_A (wF cA h0 q1 q2 q3 q4 q5 q6 st pl tk wd er nx md) sz)) 0 0 (va_A (wF cA h0 q1 q2 q3 q4 q5 q6 st pl tk wd er nx md) sz) := by
  refine Met.ofW (cc := b_F_forget) (maxL := 2) (ret := none) (by decide +kernel) rfl ?_
  intro p e s m args below meth c s₁ B hml hv
  obtain ⟨hargs, hsz, hP, hK, hD0, hNw⟩ := hv
  have hx := B.exec
  have hb := B.bytes
  have hr := B.returns
  have hts := atoms_spec (ws := ws_F_forget) B.pre
  have hown : s.vm.findClass "FlashStore" = some m.cls := findClass_of_methodNamed B.named
  have hlocks := B.notSynchronized
  subst hsz
  have hD := hD0.self (sz := s.heap.size)
  generalize hAe : va_A (wF cA h0 q1 q2 q3 q4 q5 q6 st pl tk wd er nx md) s.heap.size = A at hD ⊢
  have hA : ∀ q : Nat, s.heap.size ≤ q → A q := fun q h => by rw [← hAe]; exact Or.inr h
  have hS : va_S A s.heap s.heap [] := va_S.rf
  have hP : va_P (dC, dI) vwCl (wF cA h0 q1 q2 q3 q4 q5 q6 st pl tk wd er nx md) s.heap := hP
  have w0 := (hts _ (List.mem_cons_of_mem _ bq_1_43))
  have w1 := (hts _ (List.mem_cons_of_mem _ bq_1_42))
  have hl := lv_entry ([.ref h0, .int a1]) (n := 2) (Nat.le_of_ble_eq_true rfl)
  have hen : entryFrame m args 2 = _ := (congrArg (fun z => entryFrame m z 2) hargs).trans (lg_entry_eq m ([.ref h0, .int a1]) 2)
  refine W.eq hen ?_
  clear hen
  generalize (lg_sl ([.ref h0, .int a1]) ++ List.replicate (2 - (lg_sl ([.ref h0, .int a1])).length) Slot.unset).toArray = ls at hl ⊢
  have hl : lv_has ls 2 [(0, .ref h0), (1, .int a1)] := hl
  have J29 : ∀ (H : Heap) (locs : List Loc) (ls : Array Slot) (st : Nat → Int32) (pl : Nat → Int32), va_P (dC, dI) vwCl (wF cA h0 q1 q2 q3 q4 q5 q6 st pl tk wd er nx md) H → va_D A (wF cA h0 q1 q2 q3 q4 q5 q6 st pl tk wd er nx md) → va_S A s.heap H locs → lv_has ls 2 [] → f_F_forget_J29 st pl = some (st', pl') → W p l e (headSpec ws_F_forget rm_F_forget).room s m args below meth c H locs 0 0 (MQ below (va_Qv (S := Unit) (fun _ => True) (fun _ t => va_P (dC, dI) vwCl (wF cA h0 q1 q2 q3 q4 q5 q6 (st') (pl') tk wd er nx md) t.heap ∧ va_D A (wF cA h0 q1 q2 q3 q4 q5 q6 (st') (pl') tk wd er nx md)) A) args s 0 0 A) (F0 m 29 ls []) := by
    intro H locs ls st pl hP hD hS hl hF
    have hF : (some (st, pl)) = some (st', pl') := hF
    cases hF
    exact W.vret hx hb hr (fun t ht hW => ⟨⟨(), rfl, trivial, by rw [ht]; exact hP, hD⟩, hS.F ht⟩) hS.2.2 d_F_forget_29
  have hF : (if a1 < 0 ∨ 8 ≤ a1.toNatClampNeg then none else if (pl a1.toNatClampNeg) = (-1 : Int32) then (f_F_forget_J29 st pl) else (if (pl a1.toNatClampNeg) < 0 ∨ 16 ≤ (pl a1.toNatClampNeg).toNatClampNeg then none else f_F_forget_J29 (upd st (pl a1.toNatClampNeg).toNatClampNeg (2 : Int32)) (upd pl a1.toNatClampNeg (-1 : Int32)))) = some (st', pl') := hF
  refine lv_aload_n hx hb d_F_forget_0 rfl (lv_at hl 0 rfl) ?_
  refine va_get (D := (dC, dI)) (ci := 1) (v := .ref q3) (C := "FlashStore") (T := TF) (N := 6) hx hb hts inTF hown hK hP 0 rfl rfl 2 (by decide) w0 (fun _ h9 => h9) rfl d_F_forget_1 ?_
  refine lv_iload_n hx hb d_F_forget_4 rfl (lv_at hl 1 rfl) ?_
  obtain ⟨hi5, hF⟩ := tx_g hF
  refine va_iald hx hb hK hP 3 0 rfl rfl hi5 d_F_forget_5 ?_
  refine lv_iconst (v := (-1 : Int32)) hx hb d_F_forget_6 (by decide) ?_
  refine lv_icmp_eq hx hb d_F_forget_7 (tgt := 29) (by decide) (fun h7 => ?_) (fun h7 => ?_)
  · have hF := tx_t h7 hF
    exact J29 _ _ _ st pl hP hD hS (lv_sub hl [] rfl) hF
  · have hF := tx_f h7 hF
    refine lv_aload_n hx hb d_F_forget_10 rfl (lv_at hl 0 rfl) ?_
    refine va_get (D := (dC, dI)) (ci := 1) (v := .ref q2) (C := "FlashStore") (T := TF) (N := 6) hx hb hts inTF hown hK hP 0 rfl rfl 1 (by decide) w1 (fun _ h9 => h9) rfl d_F_forget_11 ?_
    refine lv_aload_n hx hb d_F_forget_14 rfl (lv_at hl 0 rfl) ?_
    refine va_get (D := (dC, dI)) (ci := 1) (v := .ref q3) (C := "FlashStore") (T := TF) (N := 6) hx hb hts inTF hown hK hP 0 rfl rfl 2 (by decide) w0 (fun _ h9 => h9) rfl d_F_forget_15 ?_
    refine lv_iload_n hx hb d_F_forget_18 rfl (lv_at hl 1 rfl) ?_
    refine va_iald hx hb hK hP 3 0 rfl rfl hi5 d_F_forget_19 ?_
    refine lv_iconst (v := (2 : Int32)) hx hb d_F_forget_20 (by decide) ?_
    obtain ⟨hi21, hF⟩ := tx_g hF
    refine va_iast hx hb hK hP hD hS 2 0 rfl rfl hi21 d_F_forget_21 (fun H locs hP hD hS => ?_)
    have hP : va_P (dC, dI) vwCl (wF cA h0 q1 q2 q3 q4 q5 q6 (upd st (pl a1.toNatClampNeg).toNatClampNeg (2 : Int32)) pl tk wd er nx md) H := hP
    have hD : va_D A (wF cA h0 q1 q2 q3 q4 q5 q6 (upd st (pl a1.toNatClampNeg).toNatClampNeg (2 : Int32)) pl tk wd er nx md) := hD
    refine lv_aload_n hx hb d_F_forget_22 rfl (lv_at hl 0 rfl) ?_
    refine va_get (D := (dC, dI)) (ci := 1) (v := .ref q3) (C := "FlashStore") (T := TF) (N := 6) hx hb hts inTF hown hK hP 0 rfl rfl 2 (by decide) w0 (fun _ h9 => h9) rfl d_F_forget_23 ?_
    refine lv_iload_n hx hb d_F_forget_26 rfl (lv_at hl 1 rfl) ?_
    refine lv_iconst (v := (-1 : Int32)) hx hb d_F_forget_27 (by decide) ?_
    refine va_iast hx hb hK hP hD hS 3 0 rfl rfl hi5 d_F_forget_28 (fun H locs hP hD hS => ?_)
    have hP : va_P (dC, dI) vwCl (wF cA h0 q1 q2 q3 q4 q5 q6 (upd st (pl a1.toNatClampNeg).toNatClampNeg (2 : Int32)) (upd pl a1.toNatClampNeg (-1 : Int32)) tk wd er nx md) H := hP
    have hD : va_D A (wF cA h0 q1 q2 q3 q4 q5 q6 (upd st (pl a1.toNatClampNeg).toNatClampNeg (2 : Int32)) (upd pl a1.toNatClampNeg (-1 : Int32)) tk wd er nx md) := hD
    exact J29 _ _ _ (upd st (pl a1.toNatClampNeg).toNatClampNeg (2 : Int32)) (upd pl a1.toNatClampNeg (-1 : Int32)) hP hD hS (lv_sub hl [] rfl) hF
abbrev rm_F_take : Room := { frames := 2, cells := 0, slots := 0, locals := 44 }
set_option maxHeartbeats 4000000 in
set_option maxRecDepth 100000 in
theorem c_F_take (l : Launch) (dC : Nat → ClassId) (dI : Nat → Nat → Nat) (cA : ClassId) (h0 q1 q2 q3 q4 q5 q6 sz : Nat) (st pl tk wd er : Nat → Int32) (nx md : Int32) (a1 : Int32) (a2 : Int32) (a3 : Int32) (st' : Nat → Int32) (pl' : Nat → Int32) (tk' : Nat → Int32) (hF : f_F_take st pl tk a1 a2 a3 = some (st', pl', tk')) : Met l y_F_take ws_F_take rm_F_take (tx_PW [.ref h0, .int a1, .int a2, .int a3] (dC, dI) [(cA, .int)] (wF cA h0 q1 q2 q3 q4 q5 q6 st pl tk wd er nx md) sz) (va_Qv (S := Unit) (fun _ => True) (fun _ t => va_P (dC, dI) vwCl (wF cA h0 q1 q2 q3 q4 q5 q6 (st') (pl') (tk') wd er nx md) t.heap ∧ va_D (va_A (wF cA h0 q1 q2 q3 q4 q5 q6 st pl tk wd er nx md) sz) (wF cA h0 q1 q2 q3 q4 q5 q6 (st') (pl') (tk') wd er nx md)) (va_A (wF cA h0 q1 q2 q3 q4 q5 q6 st pl tk wd er nx md) sz)) 0 0 (va_A (wF cA h0 q1 q2 q3 q4 q5 q6 st pl tk wd er nx md) sz) := by
  refine Met.ofW (cc := b_F_take) (maxL := 4) (ret := none) (by decide +kernel) rfl ?_
  intro p e s m args below meth c s₁ B hml hv
  obtain ⟨hargs, hsz, hP, hK, hD0, hNw⟩ := hv
  have hx := B.exec
  have hb := B.bytes
  have hr := B.returns
  have hts := atoms_spec (ws := ws_F_take) B.pre
  have hown : s.vm.findClass "FlashStore" = some m.cls := findClass_of_methodNamed B.named
  have hlocks := B.notSynchronized
  subst hsz
  have hD := hD0.self (sz := s.heap.size)
  generalize hAe : va_A (wF cA h0 q1 q2 q3 q4 q5 q6 st pl tk wd er nx md) s.heap.size = A at hD ⊢
  have hA : ∀ q : Nat, s.heap.size ≤ q → A q := fun q h => by rw [← hAe]; exact Or.inr h
  have hS : va_S A s.heap s.heap [] := va_S.rf
  have hP : va_P (dC, dI) vwCl (wF cA h0 q1 q2 q3 q4 q5 q6 st pl tk wd er nx md) s.heap := hP
  have w0 := (hts _ (List.mem_cons_of_mem _ bq_1_43))
  have w1 := (hts _ (List.mem_cons_of_mem _ bq_1_44))
  have w2 := (hts _ (List.mem_cons_of_mem _ bq_1_42))
  have hl := lv_entry ([.ref h0, .int a1, .int a2, .int a3]) (n := 4) (Nat.le_of_ble_eq_true rfl)
  have hen : entryFrame m args 4 = _ := (congrArg (fun z => entryFrame m z 4) hargs).trans (lg_entry_eq m ([.ref h0, .int a1, .int a2, .int a3]) 4)
  refine W.eq hen ?_
  clear hen
  generalize (lg_sl ([.ref h0, .int a1, .int a2, .int a3]) ++ List.replicate (4 - (lg_sl ([.ref h0, .int a1, .int a2, .int a3])).length) Slot.unset).toArray = ls at hl ⊢
  have hl : lv_has ls 4 [(0, .ref h0), (1, .int a1), (2, .int a2), (3, .int a3)] := hl
  have J31 : ∀ (H : Heap) (locs : List Loc) (ls : Array Slot) (st : Nat → Int32) (pl : Nat → Int32) (tk : Nat → Int32) (v1 : Int32) (v2 : Int32) (v3 : Int32), va_P (dC, dI) vwCl (wF cA h0 q1 q2 q3 q4 q5 q6 st pl tk wd er nx md) H → va_D A (wF cA h0 q1 q2 q3 q4 q5 q6 st pl tk wd er nx md) → va_S A s.heap H locs → lv_has ls 4 [(0, .ref h0), (1, .int v1), (2, .int v2), (3, .int v3)] → f_F_take_J31 st pl tk v1 v2 v3 = some (st', pl', tk') → W p l e (headSpec ws_F_take rm_F_take).room s m args below meth c H locs 0 0 (MQ below (va_Qv (S := Unit) (fun _ => True) (fun _ t => va_P (dC, dI) vwCl (wF cA h0 q1 q2 q3 q4 q5 q6 (st') (pl') (tk') wd er nx md) t.heap ∧ va_D A (wF cA h0 q1 q2 q3 q4 q5 q6 (st') (pl') (tk') wd er nx md)) A) args s 0 0 A) (F0 m 31 ls []) := by
    intro H locs ls st pl tk v1 v2 v3 hP hD hS hl hF
    have hF : ((f_F_forget st pl v2).bind fun (st33, pl33) => (f_F_hold st33 pl33 v2 v1).bind fun (st39, pl39) => if v2 < 0 ∨ 8 ≤ v2.toNatClampNeg then none else some (st39, pl39, (upd tk v2.toNatClampNeg v3))) = some (st', pl', tk') := hF
    refine lv_aload_n hx hb d_F_take_31 rfl (lv_at hl 0 rfl) ?_
    refine lv_iload_n hx hb d_F_take_32 rfl (lv_at hl 2 rfl) ?_
    obtain ⟨⟨st33, pl33⟩, hc33, hF⟩ := tx_b hF
    try dsimp only at hF
    have hPc := hP.sub (ws' := (wF cA h0 q1 q2 q3 q4 q5 q6 st pl tk wd er nx md)) [0, 1, 2, 3, 4, 5, 6] rfl
    have hDc := hD.sub (ws' := (wF cA h0 q1 q2 q3 q4 q5 q6 st pl tk wd er nx md)) [0, 1, 2, 3, 4, 5, 6] (by decide) rfl
    have hFc := va_free (wc := (wF cA h0 q1 q2 q3 q4 q5 q6 st pl tk wd er nx md)) hD hS hA [0, 1, 2, 3, 4, 5, 6] rfl
    refine va_callv (va_runV (As := [.int v2]) (rest := []) ⟨hx, hb, hml, hown, hts⟩ (c_F_forget l dC dI cA h0 q1 q2 q3 q4 q5 q6 H.size st pl tk wd er nx md v2 st33 pl33 hc33) (cwV 1 hts (tg_V bq_1_117 bq_1_119 bq_s_1 bq_1_1 bq_1_120) rfl rfl rfl (by decide +kernel) ⟨Nat.le_of_ble_eq_true rfl, Nat.le_of_ble_eq_true rfl⟩) ⟨tx_blW, (va_recv (ci := 1) (q0 := 0) hK hP rfl rfl), tx_preW hPc hDc hK hNw⟩ rfl rfl hl.1 rfl (lv_room (Nat.le_of_ble_eq_true rfl)) d_F_take_33 ⟨Nat.zero_le _, Nat.zero_le _⟩) hS (fun q _ h => hFc q h) hFc (fun _u t H locs ht hvm hw hB hz1 hk1 hS => ?_)
    obtain ⟨hP1, hD1⟩ := hB
    rw [ht] at hP1
    obtain ⟨hP2, hD2⟩ := va_join (wr := []) (w1 := (wF cA h0 q1 q2 q3 q4 q5 q6 st33 pl33 tk wd er nx md)) hP hD [0, 1, 2, 3, 4, 5, 6] [] rfl rfl (by decide) (by decide) hk1 hFc hP1 hD1
    have hP := hP2.sub (ws' := (wF cA h0 q1 q2 q3 q4 q5 q6 st33 pl33 tk wd er nx md)) [0, 1, 2, 3, 4, 5, 6] rfl
    have hD := hD2.sub (ws' := (wF cA h0 q1 q2 q3 q4 q5 q6 st33 pl33 tk wd er nx md)) [0, 1, 2, 3, 4, 5, 6] (by decide) rfl
    refine lv_aload_n hx hb d_F_take_36 rfl (lv_at hl 0 rfl) ?_
    refine lv_iload_n hx hb d_F_take_37 rfl (lv_at hl 2 rfl) ?_
    refine lv_iload_n hx hb d_F_take_38 rfl (lv_at hl 1 rfl) ?_
    obtain ⟨⟨st39, pl39⟩, hc39, hF⟩ := tx_b hF
    try dsimp only at hF
    have hPc := hP.sub (ws' := (wF cA h0 q1 q2 q3 q4 q5 q6 st33 pl33 tk wd er nx md)) [0, 1, 2, 3, 4, 5, 6] rfl
    have hDc := hD.sub (ws' := (wF cA h0 q1 q2 q3 q4 q5 q6 st33 pl33 tk wd er nx md)) [0, 1, 2, 3, 4, 5, 6] (by decide) rfl
    have hFc := va_free (wc := (wF cA h0 q1 q2 q3 q4 q5 q6 st33 pl33 tk wd er nx md)) hD hS hA [0, 1, 2, 3, 4, 5, 6] rfl
    refine va_callv (va_runV (As := [.int v2, .int v1]) (rest := []) ⟨hx, hb, hml, hown, hts⟩ (c_F_hold l dC dI cA h0 q1 q2 q3 q4 q5 q6 H.size st33 pl33 tk wd er nx md v2 v1 st39 pl39 hc39) (cwV 2 hts (tg_V bq_1_121 bq_1_123 bq_s_2 bq_1_1 bq_1_124) rfl rfl rfl (by decide +kernel) ⟨Nat.le_of_ble_eq_true rfl, Nat.le_of_ble_eq_true rfl⟩) ⟨tx_blW, (va_recv (ci := 1) (q0 := 0) hK hP rfl rfl), tx_preW hPc hDc hK hNw⟩ rfl rfl hl.1 rfl (lv_room (Nat.le_of_ble_eq_true rfl)) d_F_take_39 ⟨Nat.zero_le _, Nat.zero_le _⟩) hS (fun q _ h => hFc q h) hFc (fun _u t H locs ht hvm hw hB hz1 hk1 hS => ?_)
    obtain ⟨hP1, hD1⟩ := hB
    rw [ht] at hP1
    obtain ⟨hP2, hD2⟩ := va_join (wr := []) (w1 := (wF cA h0 q1 q2 q3 q4 q5 q6 st39 pl39 tk wd er nx md)) hP hD [0, 1, 2, 3, 4, 5, 6] [] rfl rfl (by decide) (by decide) hk1 hFc hP1 hD1
    have hP := hP2.sub (ws' := (wF cA h0 q1 q2 q3 q4 q5 q6 st39 pl39 tk wd er nx md)) [0, 1, 2, 3, 4, 5, 6] rfl
    have hD := hD2.sub (ws' := (wF cA h0 q1 q2 q3 q4 q5 q6 st39 pl39 tk wd er nx md)) [0, 1, 2, 3, 4, 5, 6] (by decide) rfl
    refine lv_aload_n hx hb d_F_take_42 rfl (lv_at hl 0 rfl) ?_
    refine va_get (D := (dC, dI)) (ci := 1) (v := .ref q4) (C := "FlashStore") (T := TF) (N := 6) hx hb hts inTF hown hK hP 0 rfl rfl 3 (by decide) w1 (fun _ h9 => h9) rfl d_F_take_43 ?_
    refine lv_iload_n hx hb d_F_take_46 rfl (lv_at hl 2 rfl) ?_
    refine lv_iload_n hx hb d_F_take_47 rfl (lv_at hl 3 rfl) ?_
    obtain ⟨hi48, hF⟩ := tx_g hF
    refine va_iast hx hb hK hP hD hS 4 0 rfl rfl hi48 d_F_take_48 (fun H locs hP hD hS => ?_)
    have hP : va_P (dC, dI) vwCl (wF cA h0 q1 q2 q3 q4 q5 q6 st39 pl39 (upd tk v2.toNatClampNeg v3) wd er nx md) H := hP
    have hD : va_D A (wF cA h0 q1 q2 q3 q4 q5 q6 st39 pl39 (upd tk v2.toNatClampNeg v3) wd er nx md) := hD
    cases hF
    exact W.vret hx hb hr (fun t ht hW => ⟨⟨(), rfl, trivial, by rw [ht]; exact hP, hD⟩, hS.F ht⟩) hS.2.2 d_F_take_49
  have hF : (if a2 < 0 ∨ 8 ≤ a2.toNatClampNeg then none else if (pl a2.toNatClampNeg) = (-1 : Int32) then (f_F_take_J31 st pl tk a1 a2 a3) else ((f_F_isNewer a3 (tk a2.toNatClampNeg)).bind fun r17 => if r17 = 0 then (if a1 < 0 ∨ 16 ≤ a1.toNatClampNeg then none else some ((upd st a1.toNatClampNeg (2 : Int32)), pl, tk)) else (f_F_take_J31 st pl tk a1 a2 a3))) = some (st', pl', tk') := hF
  refine lv_aload_n hx hb d_F_take_0 rfl (lv_at hl 0 rfl) ?_
  refine va_get (D := (dC, dI)) (ci := 1) (v := .ref q3) (C := "FlashStore") (T := TF) (N := 6) hx hb hts inTF hown hK hP 0 rfl rfl 2 (by decide) w0 (fun _ h9 => h9) rfl d_F_take_1 ?_
  refine lv_iload_n hx hb d_F_take_4 rfl (lv_at hl 2 rfl) ?_
  obtain ⟨hi5, hF⟩ := tx_g hF
  refine va_iald hx hb hK hP 3 0 rfl rfl hi5 d_F_take_5 ?_
  refine lv_iconst (v := (-1 : Int32)) hx hb d_F_take_6 (by decide) ?_
  refine lv_icmp_eq hx hb d_F_take_7 (tgt := 31) (by decide) (fun h7 => ?_) (fun h7 => ?_)
  · have hF := tx_t h7 hF
    exact J31 _ _ _ st pl tk a1 a2 a3 hP hD hS hl hF
  · have hF := tx_f h7 hF
    refine lv_iload_n hx hb d_F_take_10 rfl (lv_at hl 3 rfl) ?_
    refine lv_aload_n hx hb d_F_take_11 rfl (lv_at hl 0 rfl) ?_
    refine va_get (D := (dC, dI)) (ci := 1) (v := .ref q4) (C := "FlashStore") (T := TF) (N := 6) hx hb hts inTF hown hK hP 0 rfl rfl 3 (by decide) w1 (fun _ h9 => h9) rfl d_F_take_12 ?_
    refine lv_iload_n hx hb d_F_take_15 rfl (lv_at hl 2 rfl) ?_
    refine va_iald hx hb hK hP 4 0 rfl rfl hi5 d_F_take_16 ?_
    obtain ⟨r17, hc17, hF⟩ := tx_b hF
    refine vp_callSi (W.runS (As := [.int a3, .int (tk a2.toNatClampNeg)]) (rest := []) ⟨hx, hb, hml, hown, hts⟩ (c_F_isNewer l a3 (tk a2.toNatClampNeg) r17 hc17) (va_cwS 2 hts (tg_S bq_1_111 bq_1_112 bq_1_1 bq_1_113) rfl rfl rfl (by decide +kernel) ⟨Nat.le_of_ble_eq_true rfl, Nat.le_of_ble_eq_true rfl⟩) ⟨tx_bl0, tx_pre0⟩ rfl rfl hl.1 rfl (lv_room (Nat.le_of_ble_eq_true rfl)) d_F_take_17 ⟨Nat.zero_le _, Nat.zero_le _⟩) (fun zz hz => ?_)
    subst hz
    refine lv_if_ne hx hb d_F_take_20 (tgt := 31) (by decide) (fun h20 => ?_) (fun h20 => ?_)
    · have hF := tx_f h20 hF
      exact J31 _ _ _ st pl tk a1 a2 a3 hP hD hS hl hF
    · have hF := tx_t h20 hF
      refine lv_aload_n hx hb d_F_take_23 rfl (lv_at hl 0 rfl) ?_
      refine va_get (D := (dC, dI)) (ci := 1) (v := .ref q2) (C := "FlashStore") (T := TF) (N := 6) hx hb hts inTF hown hK hP 0 rfl rfl 1 (by decide) w2 (fun _ h9 => h9) rfl d_F_take_24 ?_
      refine lv_iload_n hx hb d_F_take_27 rfl (lv_at hl 1 rfl) ?_
      refine lv_iconst (v := (2 : Int32)) hx hb d_F_take_28 (by decide) ?_
      obtain ⟨hi29, hF⟩ := tx_g hF
      refine va_iast hx hb hK hP hD hS 2 0 rfl rfl hi29 d_F_take_29 (fun H locs hP hD hS => ?_)
      have hP : va_P (dC, dI) vwCl (wF cA h0 q1 q2 q3 q4 q5 q6 (upd st a1.toNatClampNeg (2 : Int32)) pl tk wd er nx md) H := hP
      have hD : va_D A (wF cA h0 q1 q2 q3 q4 q5 q6 (upd st a1.toNatClampNeg (2 : Int32)) pl tk wd er nx md) := hD
      cases hF
      exact W.vret hx hb hr (fun t ht hW => ⟨⟨(), rfl, trivial, by rw [ht]; exact hP, hD⟩, hS.F ht⟩) hS.2.2 d_F_take_30
abbrev rm_F_countHeld : Room := { frames := 0, cells := 0, slots := 0, locals := 0 }
set_option maxHeartbeats 4000000 in
set_option maxRecDepth 100000 in
theorem c_F_countHeld (l : Launch) (dC : Nat → ClassId) (dI : Nat → Nat → Nat) (cA : ClassId) (h0 q1 q2 q3 q4 q5 q6 : Nat) (st pl tk wd er : Nat → Int32) (nx md : Int32)  (r : Int32)  (hF : f_F_countHeld pl = some r) : Met l y_F_countHeld ws_F_countHeld rm_F_countHeld (tx_PR [.ref h0] (dC, dI) [(cA, .int)] (wF cA h0 q1 q2 q3 q4 q5 q6 st pl tk wd er nx md)) (vp_Si (fun z => r = z)) 0 0 (fun _ => False) := by
  refine Met.ofW (cc := b_F_countHeld) (maxL := 3) (ret := some .int) (by decide +kernel) rfl ?_
  intro p e s m args below meth c s₁ B hml hv
  obtain ⟨hargs, hP, hK⟩ := hv
  have hx := B.exec
  have hb := B.bytes
  have hr := B.returns
  have hts := atoms_spec (ws := ws_F_countHeld) B.pre
  have hown : s.vm.findClass "FlashStore" = some m.cls := findClass_of_methodNamed B.named
  have hlocks := B.notSynchronized
  have w0 := (hts _ (List.mem_cons_of_mem _ bq_1_43))
  have hl := lv_entry ([.ref h0]) (n := 3) (Nat.le_of_ble_eq_true rfl)
  have hen : entryFrame m args 3 = _ := (congrArg (fun z => entryFrame m z 3) hargs).trans (lg_entry_eq m ([.ref h0]) 3)
  refine W.eq hen ?_
  clear hen
  generalize (lg_sl ([.ref h0]) ++ List.replicate (3 - (lg_sl ([.ref h0])).length) Slot.unset).toArray = ls at hl ⊢
  have hl : lv_has ls 3 [(0, .ref h0)] := hl
  have J26 : ∀ (rc : (Nat → Int32) → Int32 → Int32 → Option (Int32)) (hrec0 : ∀ (ls : Array Slot) (v1 : Int32) (v2 : Int32), lv_has ls 3 [(0, .ref h0), (1, .int v1), (2, .int v2)] → rc pl v1 v2 = some r → W p l e (headSpec ws_F_countHeld rm_F_countHeld).room s m args below meth c s.heap [] 0 0 (MQ below (vp_Si (fun z => r = z)) args s 0 0 (fun _ => False)) (F0 m 4 ls [])), ∀ (ls : Array Slot) (v2 : Int32) (z0 : Int32) (z1 : Int32), lv_has ls 3 [(0, .ref h0), (2, .int v2)] → f_F_countHeld_J26 rc pl v2 z0 z1 = some r → W p l e (headSpec ws_F_countHeld rm_F_countHeld).room s m args below meth c s.heap [] 0 0 (MQ below (vp_Si (fun z => r = z)) args s 0 0 (fun _ => False)) (F0 m 26 ls [.int z0, .int z1]) := by
    intro rc hrec0
    intro ls v2 z0 z1 hl hF
    have hF : (rc pl (z1 + z0) (v2 + (1 : Int32))) = some r := hF
    refine lv_iadd hx hb d_F_countHeld_26 ?_
    refine lv_istore_n hx hb d_F_countHeld_27 rfl hl (by decide) rfl (fun ls hl => ?_)
    have hl : lv_has ls 3 [(1, .int (z1 + z0)), (0, .ref h0), (2, .int v2)] := hl
    refine lv_iinc (k := 2) (v := (v2 + (1 : Int32))) hx hb d_F_countHeld_28 hl rfl rfl (by decide) rfl (fun ls hl => ?_)
    have hl : lv_has ls 3 [(2, .int (v2 + (1 : Int32))), (1, .int (z1 + z0)), (0, .ref h0)] := hl
    refine lv_goto hx hb d_F_countHeld_31 (tgt := 4) (by decide) ?_
    exact hrec0 _ (z1 + z0) (v2 + (1 : Int32)) (lv_sub hl [2, 1, 0] rfl) hF
  have LH : ∀ n : Nat, (∀ (ls : Array Slot) (v1 : Int32) (v2 : Int32), lv_has ls 3 [(0, .ref h0), (1, .int v1), (2, .int v2)] → f_F_countHeld_H n pl v1 v2 = some r → W p l e (headSpec ws_F_countHeld rm_F_countHeld).room s m args below meth c s.heap [] 0 0 (MQ below (vp_Si (fun z => r = z)) args s 0 0 (fun _ => False)) (F0 m 4 ls [])) := by
    intro n
    induction n with
    | zero =>
      exact (by intro ls v1 v2 hl hF; have hF : (none : Option (Int32)) = _ := hF; cases hF)
    | succ n ih =>
      have hrec0 := ih
      intro ls v1 v2 hl hF
      have hF : (if (8 : Int32) ≤ v2 then (some v1) else (if v2 < 0 ∨ 8 ≤ v2.toNatClampNeg then none else if (pl v2.toNatClampNeg) = (-1 : Int32) then (f_F_countHeld_J26 (f_F_countHeld_H n) pl v2 (0 : Int32) v1) else (f_F_countHeld_J26 (f_F_countHeld_H n) pl v2 (1 : Int32) v1))) = some r := hF
      refine lv_iload_n hx hb d_F_countHeld_4 rfl (lv_at hl 2 rfl) ?_
      refine lv_bipush (v := (8 : Int32)) hx hb d_F_countHeld_5 (by decide) ?_
      refine lv_icmp_ge hx hb d_F_countHeld_7 (tgt := 34) (by decide) (fun h7 => ?_) (fun h7 => ?_)
      · have hF := tx_t h7 hF
        refine lv_iload_n hx hb d_F_countHeld_34 rfl (lv_at hl 1 rfl) ?_
        exact W.iret hx hb hr (fun t ht hW => ⟨_, rfl, (Option.some.inj hF).symm, ht⟩) (fun q h => by cases h) d_F_countHeld_35
      · have hF := tx_f h7 hF
        refine lv_iload_n hx hb d_F_countHeld_10 rfl (lv_at hl 1 rfl) ?_
        refine lv_aload_n hx hb d_F_countHeld_11 rfl (lv_at hl 0 rfl) ?_
        refine va_get (D := (dC, dI)) (ci := 1) (v := .ref q3) (C := "FlashStore") (T := TF) (N := 6) hx hb hts inTF hown hK hP 0 rfl rfl 2 (by decide) w0 (fun _ h9 => h9) rfl d_F_countHeld_12 ?_
        refine lv_iload_n hx hb d_F_countHeld_15 rfl (lv_at hl 2 rfl) ?_
        obtain ⟨hi16, hF⟩ := tx_g hF
        refine va_iald hx hb hK hP 3 0 rfl rfl hi16 d_F_countHeld_16 ?_
        refine lv_iconst (v := (-1 : Int32)) hx hb d_F_countHeld_17 (by decide) ?_
        refine lv_icmp_eq hx hb d_F_countHeld_18 (tgt := 25) (by decide) (fun h18 => ?_) (fun h18 => ?_)
        · have hF := tx_t h18 hF
          refine lv_iconst (v := (0 : Int32)) hx hb d_F_countHeld_25 (by decide) ?_
          exact J26 _ hrec0 _ v2 (0 : Int32) v1 (lv_sub hl [0, 2] rfl) hF
        · have hF := tx_f h18 hF
          refine lv_iconst (v := (1 : Int32)) hx hb d_F_countHeld_21 (by decide) ?_
          refine lv_goto hx hb d_F_countHeld_22 (tgt := 26) (by decide) ?_
          exact J26 _ hrec0 _ v2 (1 : Int32) v1 (lv_sub hl [0, 2] rfl) hF
  obtain hrec0 := LH 100
  have hF : (f_F_countHeld_H 100 pl (0 : Int32) (0 : Int32)) = some r := hF
  refine lv_iconst (v := (0 : Int32)) hx hb d_F_countHeld_0 (by decide) ?_
  refine lv_istore_n hx hb d_F_countHeld_1 rfl hl (by decide) rfl (fun ls hl => ?_)
  have hl : lv_has ls 3 [(1, .int (0 : Int32)), (0, .ref h0)] := hl
  refine lv_iconst (v := (0 : Int32)) hx hb d_F_countHeld_2 (by decide) ?_
  refine lv_istore_n hx hb d_F_countHeld_3 rfl hl (by decide) rfl (fun ls hl => ?_)
  have hl : lv_has ls 3 [(2, .int (0 : Int32)), (1, .int (0 : Int32)), (0, .ref h0)] := hl
  exact hrec0 _ (0 : Int32) (0 : Int32) (lv_sub hl [2, 1, 0] rfl) hF
abbrev rm_F_logicalPageAt : Room := { frames := 0, cells := 0, slots := 0, locals := 0 }
set_option maxHeartbeats 4000000 in
set_option maxRecDepth 100000 in
theorem c_F_logicalPageAt (l : Launch) (dC : Nat → ClassId) (dI : Nat → Nat → Nat) (cA : ClassId) (h0 q1 q2 q3 q4 q5 q6 : Nat) (st pl tk wd er : Nat → Int32) (nx md : Int32) (a1 : Int32) (r : Int32)  (hF : f_F_logicalPageAt pl a1 = some r) : Met l y_F_logicalPageAt ws_F_logicalPageAt rm_F_logicalPageAt (tx_PR [.ref h0, .int a1] (dC, dI) [(cA, .int)] (wF cA h0 q1 q2 q3 q4 q5 q6 st pl tk wd er nx md)) (vp_Si (fun z => r = z)) 0 0 (fun _ => False) := by
  refine Met.ofW (cc := b_F_logicalPageAt) (maxL := 3) (ret := some .int) (by decide +kernel) rfl ?_
  intro p e s m args below meth c s₁ B hml hv
  obtain ⟨hargs, hP, hK⟩ := hv
  have hx := B.exec
  have hb := B.bytes
  have hr := B.returns
  have hts := atoms_spec (ws := ws_F_logicalPageAt) B.pre
  have hown : s.vm.findClass "FlashStore" = some m.cls := findClass_of_methodNamed B.named
  have hlocks := B.notSynchronized
  have w0 := (hts _ (List.mem_cons_of_mem _ bq_1_43))
  have hl := lv_entry ([.ref h0, .int a1]) (n := 3) (Nat.le_of_ble_eq_true rfl)
  have hen : entryFrame m args 3 = _ := (congrArg (fun z => entryFrame m z 3) hargs).trans (lg_entry_eq m ([.ref h0, .int a1]) 3)
  refine W.eq hen ?_
  clear hen
  generalize (lg_sl ([.ref h0, .int a1]) ++ List.replicate (3 - (lg_sl ([.ref h0, .int a1])).length) Slot.unset).toArray = ls at hl ⊢
  have hl : lv_has ls 3 [(0, .ref h0), (1, .int a1)] := hl
  have LH : ∀ n : Nat, (∀ (ls : Array Slot) (v1 : Int32) (v2 : Int32), lv_has ls 3 [(0, .ref h0), (1, .int v1), (2, .int v2)] → f_F_logicalPageAt_H n pl v1 v2 = some r → W p l e (headSpec ws_F_logicalPageAt rm_F_logicalPageAt).room s m args below meth c s.heap [] 0 0 (MQ below (vp_Si (fun z => r = z)) args s 0 0 (fun _ => False)) (F0 m 2 ls [])) := by
    intro n
    induction n with
    | zero =>
      exact (by intro ls v1 v2 hl hF; have hF : (none : Option (Int32)) = _ := hF; cases hF)
    | succ n ih =>
      have hrec0 := ih
      intro ls v1 v2 hl hF
      have hF : (if (8 : Int32) ≤ v2 then (some (-1 : Int32)) else (if v2 < 0 ∨ 8 ≤ v2.toNatClampNeg then none else if (pl v2.toNatClampNeg) = v1 then (some v2) else (f_F_logicalPageAt_H n pl v1 (v2 + (1 : Int32))))) = some r := hF
      refine lv_iload_n hx hb d_F_logicalPageAt_2 rfl (lv_at hl 2 rfl) ?_
      refine lv_bipush (v := (8 : Int32)) hx hb d_F_logicalPageAt_3 (by decide) ?_
      refine lv_icmp_ge hx hb d_F_logicalPageAt_5 (tgt := 26) (by decide) (fun h5 => ?_) (fun h5 => ?_)
      · have hF := tx_t h5 hF
        refine lv_iconst (v := (-1 : Int32)) hx hb d_F_logicalPageAt_26 (by decide) ?_
        exact W.iret hx hb hr (fun t ht hW => ⟨_, rfl, (Option.some.inj hF).symm, ht⟩) (fun q h => by cases h) d_F_logicalPageAt_27
      · have hF := tx_f h5 hF
        refine lv_aload_n hx hb d_F_logicalPageAt_8 rfl (lv_at hl 0 rfl) ?_
        refine va_get (D := (dC, dI)) (ci := 1) (v := .ref q3) (C := "FlashStore") (T := TF) (N := 6) hx hb hts inTF hown hK hP 0 rfl rfl 2 (by decide) w0 (fun _ h9 => h9) rfl d_F_logicalPageAt_9 ?_
        refine lv_iload_n hx hb d_F_logicalPageAt_12 rfl (lv_at hl 2 rfl) ?_
        obtain ⟨hi13, hF⟩ := tx_g hF
        refine va_iald hx hb hK hP 3 0 rfl rfl hi13 d_F_logicalPageAt_13 ?_
        refine lv_iload_n hx hb d_F_logicalPageAt_14 rfl (lv_at hl 1 rfl) ?_
        refine lv_icmp_ne hx hb d_F_logicalPageAt_15 (tgt := 20) (by decide) (fun h15 => ?_) (fun h15 => ?_)
        · have hF := tx_f h15 hF
          refine lv_iinc (k := 2) (v := (v2 + (1 : Int32))) hx hb d_F_logicalPageAt_20 hl rfl rfl (by decide) rfl (fun ls hl => ?_)
          have hl : lv_has ls 3 [(2, .int (v2 + (1 : Int32))), (0, .ref h0), (1, .int v1)] := hl
          refine lv_goto hx hb d_F_logicalPageAt_23 (tgt := 2) (by decide) ?_
          exact hrec0 _ v1 (v2 + (1 : Int32)) (lv_sub hl [1, 2, 0] rfl) hF
        · have hF := tx_t h15 hF
          refine lv_iload_n hx hb d_F_logicalPageAt_18 rfl (lv_at hl 2 rfl) ?_
          exact W.iret hx hb hr (fun t ht hW => ⟨_, rfl, (Option.some.inj hF).symm, ht⟩) (fun q h => by cases h) d_F_logicalPageAt_19
  obtain hrec0 := LH 100
  have hF : (f_F_logicalPageAt_H 100 pl a1 (0 : Int32)) = some r := hF
  refine lv_iconst (v := (0 : Int32)) hx hb d_F_logicalPageAt_0 (by decide) ?_
  refine lv_istore_n hx hb d_F_logicalPageAt_1 rfl hl (by decide) rfl (fun ls hl => ?_)
  have hl : lv_has ls 3 [(2, .int (0 : Int32)), (0, .ref h0), (1, .int a1)] := hl
  exact hrec0 _ a1 (0 : Int32) (lv_sub hl [1, 2, 0] rfl) hF
abbrev rm_F_countInBlock : Room := { frames := 1, cells := 0, slots := 0, locals := 21 }
set_option maxHeartbeats 4000000 in
set_option maxRecDepth 100000 in
theorem c_F_countInBlock (l : Launch) (dC : Nat → ClassId) (dI : Nat → Nat → Nat) (cA : ClassId) (h0 q1 q2 q3 q4 q5 q6 : Nat) (st pl tk wd er : Nat → Int32) (nx md : Int32) (a1 : Int32) (a2 : Int32) (r : Int32)  (hF : f_F_countInBlock st a1 a2 = some r) : Met l y_F_countInBlock ws_F_countInBlock rm_F_countInBlock (tx_PR [.ref h0, .int a1, .int a2] (dC, dI) [(cA, .int)] (wF cA h0 q1 q2 q3 q4 q5 q6 st pl tk wd er nx md)) (vp_Si (fun z => r = z)) 0 0 (fun _ => False) := by
  refine Met.ofW (cc := b_F_countInBlock) (maxL := 5) (ret := some .int) (by decide +kernel) rfl ?_
  intro p e s m args below meth c s₁ B hml hv
  obtain ⟨hargs, hP, hK⟩ := hv
  have hx := B.exec
  have hb := B.bytes
  have hr := B.returns
  have hts := atoms_spec (ws := ws_F_countInBlock) B.pre
  have hown : s.vm.findClass "FlashStore" = some m.cls := findClass_of_methodNamed B.named
  have hlocks := B.notSynchronized
  have w0 := (hts _ (List.mem_cons_of_mem _ bq_1_42))
  have hl := lv_entry ([.ref h0, .int a1, .int a2]) (n := 5) (Nat.le_of_ble_eq_true rfl)
  have hen : entryFrame m args 5 = _ := (congrArg (fun z => entryFrame m z 5) hargs).trans (lg_entry_eq m ([.ref h0, .int a1, .int a2]) 5)
  refine W.eq hen ?_
  clear hen
  generalize (lg_sl ([.ref h0, .int a1, .int a2]) ++ List.replicate (5 - (lg_sl ([.ref h0, .int a1, .int a2])).length) Slot.unset).toArray = ls at hl ⊢
  have hl : lv_has ls 5 [(0, .ref h0), (1, .int a1), (2, .int a2)] := hl
  have J32 : ∀ (rc : (Nat → Int32) → Int32 → Int32 → Int32 → Int32 → Option (Int32)) (hrec0 : ∀ (ls : Array Slot) (v1 : Int32) (v2 : Int32) (v3 : Int32) (v4 : Int32), lv_has ls 5 [(0, .ref h0), (1, .int v1), (2, .int v2), (3, .int v3), (4, .int v4)] → rc st v1 v2 v3 v4 = some r → W p l e (headSpec ws_F_countInBlock rm_F_countInBlock).room s m args below meth c s.heap [] 0 0 (MQ below (vp_Si (fun z => r = z)) args s 0 0 (fun _ => False)) (F0 m 5 ls [])), ∀ (ls : Array Slot) (v1 : Int32) (v2 : Int32) (v4 : Int32) (z0 : Int32) (z1 : Int32), lv_has ls 5 [(0, .ref h0), (1, .int v1), (2, .int v2), (4, .int v4)] → f_F_countInBlock_J32 rc st v1 v2 v4 z0 z1 = some r → W p l e (headSpec ws_F_countInBlock rm_F_countInBlock).room s m args below meth c s.heap [] 0 0 (MQ below (vp_Si (fun z => r = z)) args s 0 0 (fun _ => False)) (F0 m 32 ls [.int z0, .int z1]) := by
    intro rc hrec0
    intro ls v1 v2 v4 z0 z1 hl hF
    have hF : (rc st v1 v2 (z1 + z0) (v4 + (1 : Int32))) = some r := hF
    refine lv_iadd hx hb d_F_countInBlock_32 ?_
    refine lv_istore_n hx hb d_F_countInBlock_33 rfl hl (by decide) rfl (fun ls hl => ?_)
    have hl : lv_has ls 5 [(3, .int (z1 + z0)), (0, .ref h0), (1, .int v1), (2, .int v2), (4, .int v4)] := hl
    refine lv_iinc (k := 4) (v := (v4 + (1 : Int32))) hx hb d_F_countInBlock_34 hl rfl rfl (by decide) rfl (fun ls hl => ?_)
    have hl : lv_has ls 5 [(4, .int (v4 + (1 : Int32))), (3, .int (z1 + z0)), (0, .ref h0), (1, .int v1), (2, .int v2)] := hl
    refine lv_goto hx hb d_F_countInBlock_37 (tgt := 5) (by decide) ?_
    exact hrec0 _ v1 v2 (z1 + z0) (v4 + (1 : Int32)) (lv_sub hl [2, 3, 4, 1, 0] rfl) hF
  have LH : ∀ n : Nat, (∀ (ls : Array Slot) (v1 : Int32) (v2 : Int32) (v3 : Int32) (v4 : Int32), lv_has ls 5 [(0, .ref h0), (1, .int v1), (2, .int v2), (3, .int v3), (4, .int v4)] → f_F_countInBlock_H n st v1 v2 v3 v4 = some r → W p l e (headSpec ws_F_countInBlock rm_F_countInBlock).room s m args below meth c s.heap [] 0 0 (MQ below (vp_Si (fun z => r = z)) args s 0 0 (fun _ => False)) (F0 m 5 ls [])) := by
    intro n
    induction n with
    | zero =>
      exact (by intro ls v1 v2 v3 v4 hl hF; have hF : (none : Option (Int32)) = _ := hF; cases hF)
    | succ n ih =>
      have hrec0 := ih
      intro ls v1 v2 v3 v4 hl hF
      have hF : (if (4 : Int32) ≤ v4 then (some v3) else ((f_F_placeOf v1 v4).bind fun r19 => if r19 < 0 ∨ 16 ≤ r19.toNatClampNeg then none else if (st r19.toNatClampNeg) = v2 then (f_F_countInBlock_J32 (f_F_countInBlock_H n) st v1 v2 v4 (1 : Int32) v3) else (f_F_countInBlock_J32 (f_F_countInBlock_H n) st v1 v2 v4 (0 : Int32) v3))) = some r := hF
      refine lv_iload hx hb d_F_countInBlock_5 (lv_at hl 4 rfl) ?_
      refine lv_iconst (v := (4 : Int32)) hx hb d_F_countInBlock_7 (by decide) ?_
      refine lv_icmp_ge hx hb d_F_countInBlock_8 (tgt := 40) (by decide) (fun h8 => ?_) (fun h8 => ?_)
      · have hF := tx_t h8 hF
        refine lv_iload_n hx hb d_F_countInBlock_40 rfl (lv_at hl 3 rfl) ?_
        exact W.iret hx hb hr (fun t ht hW => ⟨_, rfl, (Option.some.inj hF).symm, ht⟩) (fun q h => by cases h) d_F_countInBlock_41
      · have hF := tx_f h8 hF
        refine lv_iload_n hx hb d_F_countInBlock_11 rfl (lv_at hl 3 rfl) ?_
        refine lv_aload_n hx hb d_F_countInBlock_12 rfl (lv_at hl 0 rfl) ?_
        refine va_get (D := (dC, dI)) (ci := 1) (v := .ref q2) (C := "FlashStore") (T := TF) (N := 6) hx hb hts inTF hown hK hP 0 rfl rfl 1 (by decide) w0 (fun _ h9 => h9) rfl d_F_countInBlock_13 ?_
        refine lv_iload_n hx hb d_F_countInBlock_16 rfl (lv_at hl 1 rfl) ?_
        refine lv_iload hx hb d_F_countInBlock_17 (lv_at hl 4 rfl) ?_
        obtain ⟨r19, hc19, hF⟩ := tx_b hF
        refine vp_callSi (W.runS (As := [.int v1, .int v4]) (rest := [.ref q2, .int v3]) ⟨hx, hb, hml, hown, hts⟩ (c_F_placeOf l v1 v4 r19 hc19) (va_cwS 2 hts (tg_S bq_2_34 bq_2_35 bq_1_1 bq_2_36) rfl rfl rfl (by decide +kernel) ⟨Nat.le_of_ble_eq_true rfl, Nat.le_of_ble_eq_true rfl⟩) ⟨tx_bl0, tx_pre0⟩ rfl rfl hl.1 rfl (lv_room (Nat.le_of_ble_eq_true rfl)) d_F_countInBlock_19 ⟨Nat.zero_le _, Nat.zero_le _⟩) (fun zz hz => ?_)
        subst hz
        obtain ⟨hi22, hF⟩ := tx_g hF
        refine va_iald hx hb hK hP 2 0 rfl rfl hi22 d_F_countInBlock_22 ?_
        refine lv_iload_n hx hb d_F_countInBlock_23 rfl (lv_at hl 2 rfl) ?_
        refine lv_icmp_ne hx hb d_F_countInBlock_24 (tgt := 31) (by decide) (fun h24 => ?_) (fun h24 => ?_)
        · have hF := tx_f h24 hF
          refine lv_iconst (v := (0 : Int32)) hx hb d_F_countInBlock_31 (by decide) ?_
          exact J32 _ hrec0 _ v1 v2 v4 (0 : Int32) v3 (lv_sub hl [0, 1, 2, 4] rfl) hF
        · have hF := tx_t h24 hF
          refine lv_iconst (v := (1 : Int32)) hx hb d_F_countInBlock_27 (by decide) ?_
          refine lv_goto hx hb d_F_countInBlock_28 (tgt := 32) (by decide) ?_
          exact J32 _ hrec0 _ v1 v2 v4 (1 : Int32) v3 (lv_sub hl [0, 1, 2, 4] rfl) hF
  obtain hrec0 := LH 100
  have hF : (f_F_countInBlock_H 100 st a1 a2 (0 : Int32) (0 : Int32)) = some r := hF
  refine lv_iconst (v := (0 : Int32)) hx hb d_F_countInBlock_0 (by decide) ?_
  refine lv_istore_n hx hb d_F_countInBlock_1 rfl hl (by decide) rfl (fun ls hl => ?_)
  have hl : lv_has ls 5 [(3, .int (0 : Int32)), (0, .ref h0), (1, .int a1), (2, .int a2)] := hl
  refine lv_iconst (v := (0 : Int32)) hx hb d_F_countInBlock_2 (by decide) ?_
  refine lv_istore hx hb d_F_countInBlock_3 hl (by decide) rfl (fun ls hl => ?_)
  have hl : lv_has ls 5 [(4, .int (0 : Int32)), (3, .int (0 : Int32)), (0, .ref h0), (1, .int a1), (2, .int a2)] := hl
  exact hrec0 _ a1 a2 (0 : Int32) (0 : Int32) (lv_sub hl [2, 3, 4, 1, 0] rfl) hF
end
section
abbrev rm_F_isWholeFree : Room := { frames := 2, cells := 0, slots := 0, locals := 45 }
set_option maxHeartbeats 4000000 in
set_option maxRecDepth 100000 in
theorem c_F_isWholeFree (l : Launch) (dC : Nat → ClassId) (dI : Nat → Nat → Nat) (cA : ClassId) (h0 q1 q2 q3 q4 q5 q6 : Nat) (st pl tk wd er : Nat → Int32) (nx md : Int32) (a1 : Int32) (r : Int32)  (hF : f_F_isWholeFree st a1 = some r) : Met l y_F_isWholeFree ws_F_isWholeFree rm_F_isWholeFree (tx_PR [.ref h0, .int a1] (dC, dI) [(cA, .int)] (wF cA h0 q1 q2 q3 q4 q5 q6 st pl tk wd er nx md)) (vp_Si (fun z => r = z)) 0 0 (fun _ => False) := by
  refine Met.ofW (cc := b_F_isWholeFree) (maxL := 2) (ret := some .boolean) (by decide +kernel) rfl ?_
  intro p e s m args below meth c s₁ B hml hv
  obtain ⟨hargs, hP, hK⟩ := hv
  have hx := B.exec
  have hb := B.bytes
  have hr := B.returns
  have hts := atoms_spec (ws := ws_F_isWholeFree) B.pre
  have hown : s.vm.findClass "FlashStore" = some m.cls := findClass_of_methodNamed B.named
  have hlocks := B.notSynchronized
  have hl := lv_entry ([.ref h0, .int a1]) (n := 2) (Nat.le_of_ble_eq_true rfl)
  have hen : entryFrame m args 2 = _ := (congrArg (fun z => entryFrame m z 2) hargs).trans (lg_entry_eq m ([.ref h0, .int a1]) 2)
  refine W.eq hen ?_
  clear hen
  generalize (lg_sl ([.ref h0, .int a1]) ++ List.replicate (2 - (lg_sl ([.ref h0, .int a1])).length) Slot.unset).toArray = ls at hl ⊢
  have hl : lv_has ls 2 [(0, .ref h0), (1, .int a1)] := hl
  have J15 : ∀ (ls : Array Slot) (z0 : Int32), lv_has ls 2 [] → f_F_isWholeFree_J15 st z0 = some r → W p l e (headSpec ws_F_isWholeFree rm_F_isWholeFree).room s m args below meth c s.heap [] 0 0 (MQ below (vp_Si (fun z => r = z)) args s 0 0 (fun _ => False)) (F0 m 15 ls [.int z0]) := by
    intro ls z0 hl hF
    have hF : (if ¬ (z0 = 0 ∨ z0 = 1) then none else some z0) = some r := hF
    obtain ⟨hz, hF⟩ := tx_g hF
    have hz := Classical.not_not.mp hz
    exact W.zret hx hb hr (tx_z hz) (fun t ht hW => ⟨_, rfl, (Option.some.inj hF).symm, ht⟩) (fun q h => by cases h) d_F_isWholeFree_15
  have hF : ((f_F_countInBlock st a1 (0 : Int32)).bind fun r3 => if r3 = (4 : Int32) then (f_F_isWholeFree_J15 st (1 : Int32)) else (f_F_isWholeFree_J15 st (0 : Int32))) = some r := hF
  refine lv_aload_n hx hb d_F_isWholeFree_0 rfl (lv_at hl 0 rfl) ?_
  refine lv_iload_n hx hb d_F_isWholeFree_1 rfl (lv_at hl 1 rfl) ?_
  refine lv_iconst (v := (0 : Int32)) hx hb d_F_isWholeFree_2 (by decide) ?_
  obtain ⟨r3, hc3, hF⟩ := tx_b hF
  refine vp_callSi (W.runV (As := [.int a1, .int (0 : Int32)]) (rest := []) ⟨hx, hb, hml, hown, hts⟩ (c_F_countInBlock l dC dI cA h0 q1 q2 q3 q4 q5 q6 st pl tk wd er nx md a1 (0 : Int32) r3 hc3) (cwV 2 hts (tg_V bq_2_30 bq_2_32 bq_s_8 bq_1_1 bq_2_33) rfl rfl rfl (by decide +kernel) ⟨Nat.le_of_ble_eq_true rfl, Nat.le_of_ble_eq_true rfl⟩) ⟨tx_blR, (va_recv (ci := 1) (q0 := 0) hK hP rfl rfl), tx_preR (hP) hK⟩ rfl rfl hl.1 rfl (lv_room (Nat.le_of_ble_eq_true rfl)) d_F_isWholeFree_3 ⟨Nat.zero_le _, Nat.zero_le _⟩) (fun zz hz => ?_)
  subst hz
  refine lv_iconst (v := (4 : Int32)) hx hb d_F_isWholeFree_6 (by decide) ?_
  refine lv_icmp_ne hx hb d_F_isWholeFree_7 (tgt := 14) (by decide) (fun h7 => ?_) (fun h7 => ?_)
  · have hF := tx_f h7 hF
    refine lv_iconst (v := (0 : Int32)) hx hb d_F_isWholeFree_14 (by decide) ?_
    exact J15 _ (0 : Int32) (lv_sub hl [] rfl) hF
  · have hF := tx_t h7 hF
    refine lv_iconst (v := (1 : Int32)) hx hb d_F_isWholeFree_10 (by decide) ?_
    refine lv_goto hx hb d_F_isWholeFree_11 (tgt := 15) (by decide) ?_
    exact J15 _ (1 : Int32) (lv_sub hl [] rfl) hF
abbrev rm_F_freePlace : Room := { frames := 3, cells := 0, slots := 0, locals := 66 }
set_option maxHeartbeats 4000000 in
set_option maxRecDepth 100000 in
theorem c_F_freePlace (l : Launch) (dC : Nat → ClassId) (dI : Nat → Nat → Nat) (cA : ClassId) (h0 q1 q2 q3 q4 q5 q6 : Nat) (st pl tk wd er : Nat → Int32) (nx md : Int32) (a1 : Int32) (r : Int32)  (hF : f_F_freePlace st a1 = some r) : Met l y_F_freePlace ws_F_freePlace rm_F_freePlace (tx_PR [.ref h0, .int a1] (dC, dI) [(cA, .int)] (wF cA h0 q1 q2 q3 q4 q5 q6 st pl tk wd er nx md)) (vp_Si (fun z => r = z)) 0 0 (fun _ => False) := by
  refine Met.ofW (cc := b_F_freePlace) (maxL := 5) (ret := some .int) (by decide +kernel) rfl ?_
  intro p e s m args below meth c s₁ B hml hv
  obtain ⟨hargs, hP, hK⟩ := hv
  have hx := B.exec
  have hb := B.bytes
  have hr := B.returns
  have hts := atoms_spec (ws := ws_F_freePlace) B.pre
  have hown : s.vm.findClass "FlashStore" = some m.cls := findClass_of_methodNamed B.named
  have hlocks := B.notSynchronized
  have w0 := (hts _ (List.mem_cons_of_mem _ bq_1_42))
  have hl := lv_entry ([.ref h0, .int a1]) (n := 5) (Nat.le_of_ble_eq_true rfl)
  have hen : entryFrame m args 5 = _ := (congrArg (fun z => entryFrame m z 5) hargs).trans (lg_entry_eq m ([.ref h0, .int a1]) 5)
  refine W.eq hen ?_
  clear hen
  generalize (lg_sl ([.ref h0, .int a1]) ++ List.replicate (5 - (lg_sl ([.ref h0, .int a1])).length) Slot.unset).toArray = ls at hl ⊢
  have hl : lv_has ls 5 [(0, .ref h0), (1, .int a1)] := hl
  have J52 : ∀ (rc : (Nat → Int32) → Int32 → Int32 → Int32 → Option (Int32)) (hrec0 : ∀ (ls : Array Slot) (v1 : Int32) (v2 : Int32) (v3 : Int32), lv_has ls 5 [(0, .ref h0), (1, .int v1), (2, .int v2), (3, .int v3)] → rc st v1 v2 v3 = some r → W p l e (headSpec ws_F_freePlace rm_F_freePlace).room s m args below meth c s.heap [] 0 0 (MQ below (vp_Si (fun z => r = z)) args s 0 0 (fun _ => False)) (F0 m 4 ls [])), ∀ (ls : Array Slot) (v1 : Int32) (v2 : Int32) (v3 : Int32), lv_has ls 5 [(0, .ref h0), (1, .int v1), (2, .int v2), (3, .int v3)] → f_F_freePlace_J52 rc st v1 v2 v3 = some r → W p l e (headSpec ws_F_freePlace rm_F_freePlace).room s m args below meth c s.heap [] 0 0 (MQ below (vp_Si (fun z => r = z)) args s 0 0 (fun _ => False)) (F0 m 52 ls []) := by
    intro rc hrec0
    intro ls v1 v2 v3 hl hF
    have hF : (rc st v1 v2 (v3 + (1 : Int32))) = some r := hF
    refine lv_iinc (k := 3) (v := (v3 + (1 : Int32))) hx hb d_F_freePlace_52 hl rfl rfl (by decide) rfl (fun ls hl => ?_)
    have hl : lv_has ls 5 [(3, .int (v3 + (1 : Int32))), (0, .ref h0), (1, .int v1), (2, .int v2)] := hl
    refine lv_goto hx hb d_F_freePlace_55 (tgt := 4) (by decide) ?_
    exact hrec0 _ v1 v2 (v3 + (1 : Int32)) (lv_sub hl [1, 2, 3, 0] rfl) hF
  have LH : ∀ n : Nat, (∀ (ls : Array Slot) (v1 : Int32) (v2 : Int32) (v3 : Int32), lv_has ls 5 [(0, .ref h0), (1, .int v1), (2, .int v2), (3, .int v3)] → f_F_freePlace_H n st v1 v2 v3 = some r → W p l e (headSpec ws_F_freePlace rm_F_freePlace).room s m args below meth c s.heap [] 0 0 (MQ below (vp_Si (fun z => r = z)) args s 0 0 (fun _ => False)) (F0 m 4 ls [])) := by
    intro n
    induction n with
    | zero =>
      exact (by intro ls v1 v2 v3 hl hF; have hF : (none : Option (Int32)) = _ := hF; cases hF)
    | succ n ih =>
      have hrec0 := ih
      intro ls v1 v2 v3 hl hF
      have hF : (if (16 : Int32) ≤ v3 then (some v2) else ((f_F_blockOf v3).bind fun r11 => if v3 < 0 ∨ 16 ≤ v3.toNatClampNeg then none else if (st v3.toNatClampNeg) = 0 then (if r11 = v1 then (f_F_freePlace_J52 (f_F_freePlace_H n) st v1 v2 v3) else ((f_F_isWholeFree st r11).bind fun r37 => if r37 = 0 then (some v3) else (if v2 = (-1 : Int32) then (f_F_freePlace_J52 (f_F_freePlace_H n) st v1 v3 v3) else (f_F_freePlace_J52 (f_F_freePlace_H n) st v1 v2 v3)))) else (f_F_freePlace_J52 (f_F_freePlace_H n) st v1 v2 v3))) = some r := hF
      refine lv_iload_n hx hb d_F_freePlace_4 rfl (lv_at hl 3 rfl) ?_
      refine lv_bipush (v := (16 : Int32)) hx hb d_F_freePlace_5 (by decide) ?_
      refine lv_icmp_ge hx hb d_F_freePlace_7 (tgt := 58) (by decide) (fun h7 => ?_) (fun h7 => ?_)
      · have hF := tx_t h7 hF
        refine lv_iload_n hx hb d_F_freePlace_58 rfl (lv_at hl 2 rfl) ?_
        exact W.iret hx hb hr (fun t ht hW => ⟨_, rfl, (Option.some.inj hF).symm, ht⟩) (fun q h => by cases h) d_F_freePlace_59
      · have hF := tx_f h7 hF
        refine lv_iload_n hx hb d_F_freePlace_10 rfl (lv_at hl 3 rfl) ?_
        obtain ⟨r11, hc11, hF⟩ := tx_b hF
        refine vp_callSi (W.runS (As := [.int v3]) (rest := []) ⟨hx, hb, hml, hown, hts⟩ (c_F_blockOf l v3 r11 hc11) (va_cwS 1 hts (tg_S bq_2_23 bq_2_24 bq_1_1 bq_2_25) rfl rfl rfl (by decide +kernel) ⟨Nat.le_of_ble_eq_true rfl, Nat.le_of_ble_eq_true rfl⟩) ⟨tx_bl0, tx_pre0⟩ rfl rfl hl.1 rfl (lv_room (Nat.le_of_ble_eq_true rfl)) d_F_freePlace_11 ⟨Nat.zero_le _, Nat.zero_le _⟩) (fun zz hz => ?_)
        subst hz
        refine lv_istore hx hb d_F_freePlace_14 hl (by decide) rfl (fun ls hl => ?_)
        have hl : lv_has ls 5 [(4, .int r11), (0, .ref h0), (1, .int v1), (2, .int v2), (3, .int v3)] := hl
        refine lv_aload_n hx hb d_F_freePlace_16 rfl (lv_at hl 1 rfl) ?_
        refine va_get (D := (dC, dI)) (ci := 1) (v := .ref q2) (C := "FlashStore") (T := TF) (N := 6) hx hb hts inTF hown hK hP 0 rfl rfl 1 (by decide) w0 (fun _ h9 => h9) rfl d_F_freePlace_17 ?_
        refine lv_iload_n hx hb d_F_freePlace_20 rfl (lv_at hl 4 rfl) ?_
        obtain ⟨hi21, hF⟩ := tx_g hF
        refine va_iald hx hb hK hP 2 0 rfl rfl hi21 d_F_freePlace_21 ?_
        refine lv_if_ne hx hb d_F_freePlace_22 (tgt := 52) (by decide) (fun h22 => ?_) (fun h22 => ?_)
        · have hF := tx_f h22 hF
          exact J52 _ hrec0 _ v1 v2 v3 (lv_sub hl [1, 2, 3, 4] rfl) hF
        · have hF := tx_t h22 hF
          refine lv_iload hx hb d_F_freePlace_25 (lv_at hl 0 rfl) ?_
          refine lv_iload_n hx hb d_F_freePlace_27 rfl (lv_at hl 2 rfl) ?_
          refine lv_icmp_ne hx hb d_F_freePlace_28 (tgt := 34) (by decide) (fun h28 => ?_) (fun h28 => ?_)
          · have hF := tx_f h28 hF
            refine lv_aload_n hx hb d_F_freePlace_34 rfl (lv_at hl 1 rfl) ?_
            refine lv_iload hx hb d_F_freePlace_35 (lv_at hl 0 rfl) ?_
            obtain ⟨r37, hc37, hF⟩ := tx_b hF
            refine vp_callSi (W.runV (As := [.int r11]) (rest := []) ⟨hx, hb, hml, hown, hts⟩ (c_F_isWholeFree l dC dI cA h0 q1 q2 q3 q4 q5 q6 st pl tk wd er nx md r11 r37 hc37) (cwV 1 hts (tg_V bq_2_26 bq_2_28 bq_s_7 bq_1_1 bq_2_29) rfl rfl rfl (by decide +kernel) ⟨Nat.le_of_ble_eq_true rfl, Nat.le_of_ble_eq_true rfl⟩) ⟨tx_blR, (va_recv (ci := 1) (q0 := 0) hK hP rfl rfl), tx_preR (hP) hK⟩ rfl rfl hl.1 rfl (lv_room (Nat.le_of_ble_eq_true rfl)) d_F_freePlace_37 ⟨Nat.zero_le _, Nat.zero_le _⟩) (fun zz hz => ?_)
            subst hz
            refine lv_if_ne hx hb d_F_freePlace_40 (tgt := 45) (by decide) (fun h40 => ?_) (fun h40 => ?_)
            · have hF := tx_f h40 hF
              refine lv_iload_n hx hb d_F_freePlace_45 rfl (lv_at hl 3 rfl) ?_
              refine lv_iconst (v := (-1 : Int32)) hx hb d_F_freePlace_46 (by decide) ?_
              refine lv_icmp_ne hx hb d_F_freePlace_47 (tgt := 52) (by decide) (fun h47 => ?_) (fun h47 => ?_)
              · have hF := tx_f h47 hF
                exact J52 _ hrec0 _ v1 v2 v3 (lv_sub hl [1, 2, 3, 4] rfl) hF
              · have hF := tx_t h47 hF
                refine lv_iload_n hx hb d_F_freePlace_50 rfl (lv_at hl 4 rfl) ?_
                refine lv_istore_n hx hb d_F_freePlace_51 rfl hl (by decide) rfl (fun ls hl => ?_)
                have hl : lv_has ls 5 [(2, .int v3), (4, .int r11), (0, .ref h0), (1, .int v1), (3, .int v3)] := hl
                exact J52 _ hrec0 _ v1 v3 v3 (lv_sub hl [2, 3, 0, 4] rfl) hF
            · have hF := tx_t h40 hF
              refine lv_iload_n hx hb d_F_freePlace_43 rfl (lv_at hl 4 rfl) ?_
              exact W.iret hx hb hr (fun t ht hW => ⟨_, rfl, (Option.some.inj hF).symm, ht⟩) (fun q h => by cases h) d_F_freePlace_44
          · have hF := tx_t h28 hF
            refine lv_goto hx hb d_F_freePlace_31 (tgt := 52) (by decide) ?_
            exact J52 _ hrec0 _ v1 v2 v3 (lv_sub hl [1, 2, 3, 4] rfl) hF
  obtain hrec0 := LH 100
  have hF : (f_F_freePlace_H 100 st a1 (-1 : Int32) (0 : Int32)) = some r := hF
  refine lv_iconst (v := (-1 : Int32)) hx hb d_F_freePlace_0 (by decide) ?_
  refine lv_istore_n hx hb d_F_freePlace_1 rfl hl (by decide) rfl (fun ls hl => ?_)
  have hl : lv_has ls 5 [(2, .int (-1 : Int32)), (0, .ref h0), (1, .int a1)] := hl
  refine lv_iconst (v := (0 : Int32)) hx hb d_F_freePlace_2 (by decide) ?_
  refine lv_istore_n hx hb d_F_freePlace_3 rfl hl (by decide) rfl (fun ls hl => ?_)
  have hl : lv_has ls 5 [(3, .int (0 : Int32)), (2, .int (-1 : Int32)), (0, .ref h0), (1, .int a1)] := hl
  exact hrec0 _ a1 (-1 : Int32) (0 : Int32) (lv_sub hl [2, 3, 1, 0] rfl) hF
abbrev rm_F_leavesBlockFree : Room := { frames := 4, cells := 0, slots := 0, locals := 90 }
set_option maxHeartbeats 4000000 in
set_option maxRecDepth 100000 in
theorem c_F_leavesBlockFree (l : Launch) (dC : Nat → ClassId) (dI : Nat → Nat → Nat) (cA : ClassId) (h0 q1 q2 q3 q4 q5 q6 : Nat) (st pl tk wd er : Nat → Int32) (nx md : Int32)  (r : Int32)  (hF : f_F_leavesBlockFree st = some r) : Met l y_F_leavesBlockFree ws_F_leavesBlockFree rm_F_leavesBlockFree (tx_PR [.ref h0] (dC, dI) [(cA, .int)] (wF cA h0 q1 q2 q3 q4 q5 q6 st pl tk wd er nx md)) (vp_Si (fun z => r = z)) 0 0 (fun _ => False) := by
  refine Met.ofW (cc := b_F_leavesBlockFree) (maxL := 3) (ret := some .boolean) (by decide +kernel) rfl ?_
  intro p e s m args below meth c s₁ B hml hv
  obtain ⟨hargs, hP, hK⟩ := hv
  have hx := B.exec
  have hb := B.bytes
  have hr := B.returns
  have hts := atoms_spec (ws := ws_F_leavesBlockFree) B.pre
  have hown : s.vm.findClass "FlashStore" = some m.cls := findClass_of_methodNamed B.named
  have hlocks := B.notSynchronized
  have hl := lv_entry ([.ref h0]) (n := 3) (Nat.le_of_ble_eq_true rfl)
  have hen : entryFrame m args 3 = _ := (congrArg (fun z => entryFrame m z 3) hargs).trans (lg_entry_eq m ([.ref h0]) 3)
  refine W.eq hen ?_
  clear hen
  generalize (lg_sl ([.ref h0]) ++ List.replicate (3 - (lg_sl ([.ref h0])).length) Slot.unset).toArray = ls at hl ⊢
  have hl : lv_has ls 3 [(0, .ref h0)] := hl
  have J38 : ∀ (rc : (Nat → Int32) → Int32 → Int32 → Option (Int32)) (hrec0 : ∀ (ls : Array Slot) (v1 : Int32) (v2 : Int32), lv_has ls 3 [(0, .ref h0), (1, .int v1), (2, .int v2)] → rc st v1 v2 = some r → W p l e (headSpec ws_F_leavesBlockFree rm_F_leavesBlockFree).room s m args below meth c s.heap [] 0 0 (MQ below (vp_Si (fun z => r = z)) args s 0 0 (fun _ => False)) (F0 m 15 ls [])), ∀ (ls : Array Slot) (v1 : Int32) (v2 : Int32), lv_has ls 3 [(0, .ref h0), (1, .int v1), (2, .int v2)] → f_F_leavesBlockFree_J38 rc st v1 v2 = some r → W p l e (headSpec ws_F_leavesBlockFree rm_F_leavesBlockFree).room s m args below meth c s.heap [] 0 0 (MQ below (vp_Si (fun z => r = z)) args s 0 0 (fun _ => False)) (F0 m 38 ls []) := by
    intro rc hrec0
    intro ls v1 v2 hl hF
    have hF : (rc st v1 (v2 + (1 : Int32))) = some r := hF
    refine lv_iinc (k := 2) (v := (v2 + (1 : Int32))) hx hb d_F_leavesBlockFree_38 hl rfl rfl (by decide) rfl (fun ls hl => ?_)
    have hl : lv_has ls 3 [(2, .int (v2 + (1 : Int32))), (0, .ref h0), (1, .int v1)] := hl
    refine lv_goto hx hb d_F_leavesBlockFree_41 (tgt := 15) (by decide) ?_
    exact hrec0 _ v1 (v2 + (1 : Int32)) (lv_sub hl [1, 2, 0] rfl) hF
  have LH : ∀ n : Nat, (∀ (ls : Array Slot) (v1 : Int32) (v2 : Int32), lv_has ls 3 [(0, .ref h0), (1, .int v1), (2, .int v2)] → f_F_leavesBlockFree_H n st v1 v2 = some r → W p l e (headSpec ws_F_leavesBlockFree rm_F_leavesBlockFree).room s m args below meth c s.heap [] 0 0 (MQ below (vp_Si (fun z => r = z)) args s 0 0 (fun _ => False)) (F0 m 15 ls [])) := by
    intro n
    induction n with
    | zero =>
      exact (by intro ls v1 v2 hl hF; have hF : (none : Option (Int32)) = _ := hF; cases hF)
    | succ n ih =>
      have hrec0 := ih
      intro ls v1 v2 hl hF
      have hF : (if (4 : Int32) ≤ v2 then (if ¬ ((0 : Int32) = 0 ∨ (0 : Int32) = 1) then none else some (0 : Int32)) else ((f_F_blockOf v1).bind fun r22 => if v2 = r22 then (f_F_leavesBlockFree_J38 (f_F_leavesBlockFree_H n) st v1 v2) else ((f_F_isWholeFree st v2).bind fun r30 => if r30 = 0 then (f_F_leavesBlockFree_J38 (f_F_leavesBlockFree_H n) st v1 v2) else (if ¬ ((1 : Int32) = 0 ∨ (1 : Int32) = 1) then none else some (1 : Int32))))) = some r := hF
      refine lv_iload_n hx hb d_F_leavesBlockFree_15 rfl (lv_at hl 2 rfl) ?_
      refine lv_iconst (v := (4 : Int32)) hx hb d_F_leavesBlockFree_16 (by decide) ?_
      refine lv_icmp_ge hx hb d_F_leavesBlockFree_17 (tgt := 44) (by decide) (fun h17 => ?_) (fun h17 => ?_)
      · have hF := tx_t h17 hF
        refine lv_iconst (v := (0 : Int32)) hx hb d_F_leavesBlockFree_44 (by decide) ?_
        obtain ⟨hz, hF⟩ := tx_g hF
        have hz := Classical.not_not.mp hz
        exact W.zret hx hb hr (tx_z hz) (fun t ht hW => ⟨_, rfl, (Option.some.inj hF).symm, ht⟩) (fun q h => by cases h) d_F_leavesBlockFree_45
      · have hF := tx_f h17 hF
        refine lv_iload_n hx hb d_F_leavesBlockFree_20 rfl (lv_at hl 2 rfl) ?_
        refine lv_iload_n hx hb d_F_leavesBlockFree_21 rfl (lv_at hl 1 rfl) ?_
        obtain ⟨r22, hc22, hF⟩ := tx_b hF
        refine vp_callSi (W.runS (As := [.int v1]) (rest := [.int v2]) ⟨hx, hb, hml, hown, hts⟩ (c_F_blockOf l v1 r22 hc22) (va_cwS 1 hts (tg_S bq_2_23 bq_2_24 bq_1_1 bq_2_25) rfl rfl rfl (by decide +kernel) ⟨Nat.le_of_ble_eq_true rfl, Nat.le_of_ble_eq_true rfl⟩) ⟨tx_bl0, tx_pre0⟩ rfl rfl hl.1 rfl (lv_room (Nat.le_of_ble_eq_true rfl)) d_F_leavesBlockFree_22 ⟨Nat.zero_le _, Nat.zero_le _⟩) (fun zz hz => ?_)
        subst hz
        refine lv_icmp_eq hx hb d_F_leavesBlockFree_25 (tgt := 38) (by decide) (fun h25 => ?_) (fun h25 => ?_)
        · have hF := tx_t h25 hF
          exact J38 _ hrec0 _ v1 v2 hl hF
        · have hF := tx_f h25 hF
          refine lv_aload_n hx hb d_F_leavesBlockFree_28 rfl (lv_at hl 0 rfl) ?_
          refine lv_iload_n hx hb d_F_leavesBlockFree_29 rfl (lv_at hl 2 rfl) ?_
          obtain ⟨r30, hc30, hF⟩ := tx_b hF
          refine vp_callSi (W.runV (As := [.int v2]) (rest := []) ⟨hx, hb, hml, hown, hts⟩ (c_F_isWholeFree l dC dI cA h0 q1 q2 q3 q4 q5 q6 st pl tk wd er nx md v2 r30 hc30) (cwV 1 hts (tg_V bq_2_26 bq_2_28 bq_s_7 bq_1_1 bq_2_29) rfl rfl rfl (by decide +kernel) ⟨Nat.le_of_ble_eq_true rfl, Nat.le_of_ble_eq_true rfl⟩) ⟨tx_blR, (va_recv (ci := 1) (q0 := 0) hK hP rfl rfl), tx_preR (hP) hK⟩ rfl rfl hl.1 rfl (lv_room (Nat.le_of_ble_eq_true rfl)) d_F_leavesBlockFree_30 ⟨Nat.zero_le _, Nat.zero_le _⟩) (fun zz hz => ?_)
          subst hz
          refine lv_if_eq hx hb d_F_leavesBlockFree_33 (tgt := 38) (by decide) (fun h33 => ?_) (fun h33 => ?_)
          · have hF := tx_t h33 hF
            exact J38 _ hrec0 _ v1 v2 hl hF
          · have hF := tx_f h33 hF
            refine lv_iconst (v := (1 : Int32)) hx hb d_F_leavesBlockFree_36 (by decide) ?_
            obtain ⟨hz, hF⟩ := tx_g hF
            have hz := Classical.not_not.mp hz
            exact W.zret hx hb hr (tx_z hz) (fun t ht hW => ⟨_, rfl, (Option.some.inj hF).symm, ht⟩) (fun q h => by cases h) d_F_leavesBlockFree_37
  obtain hrec0 := LH 100
  have hF : ((f_F_freePlace st (-1 : Int32)).bind fun r2 => if r2 = (-1 : Int32) then (if ¬ ((0 : Int32) = 0 ∨ (0 : Int32) = 1) then none else some (0 : Int32)) else (f_F_leavesBlockFree_H 100 st r2 (0 : Int32))) = some r := hF
  refine lv_aload_n hx hb d_F_leavesBlockFree_0 rfl (lv_at hl 0 rfl) ?_
  refine lv_iconst (v := (-1 : Int32)) hx hb d_F_leavesBlockFree_1 (by decide) ?_
  obtain ⟨r2, hc2, hF⟩ := tx_b hF
  refine vp_callSi (W.runV (As := [.int (-1 : Int32)]) (rest := []) ⟨hx, hb, hml, hown, hts⟩ (c_F_freePlace l dC dI cA h0 q1 q2 q3 q4 q5 q6 st pl tk wd er nx md (-1 : Int32) r2 hc2) (cwV 1 hts (tg_V bq_2_19 bq_2_21 bq_s_6 bq_1_1 bq_2_22) rfl rfl rfl (by decide +kernel) ⟨Nat.le_of_ble_eq_true rfl, Nat.le_of_ble_eq_true rfl⟩) ⟨tx_blR, (va_recv (ci := 1) (q0 := 0) hK hP rfl rfl), tx_preR (hP) hK⟩ rfl rfl hl.1 rfl (lv_room (Nat.le_of_ble_eq_true rfl)) d_F_leavesBlockFree_2 ⟨Nat.zero_le _, Nat.zero_le _⟩) (fun zz hz => ?_)
  subst hz
  refine lv_istore_n hx hb d_F_leavesBlockFree_5 rfl hl (by decide) rfl (fun ls hl => ?_)
  have hl : lv_has ls 3 [(1, .int r2), (0, .ref h0)] := hl
  refine lv_iload_n hx hb d_F_leavesBlockFree_6 rfl (lv_at hl 0 rfl) ?_
  refine lv_iconst (v := (-1 : Int32)) hx hb d_F_leavesBlockFree_7 (by decide) ?_
  refine lv_icmp_ne hx hb d_F_leavesBlockFree_8 (tgt := 13) (by decide) (fun h8 => ?_) (fun h8 => ?_)
  · have hF := tx_f h8 hF
    refine lv_iconst (v := (0 : Int32)) hx hb d_F_leavesBlockFree_13 (by decide) ?_
    refine lv_istore_n hx hb d_F_leavesBlockFree_14 rfl hl (by decide) rfl (fun ls hl => ?_)
    have hl : lv_has ls 3 [(2, .int (0 : Int32)), (1, .int r2), (0, .ref h0)] := hl
    exact hrec0 _ r2 (0 : Int32) (lv_sub hl [2, 1, 0] rfl) hF
  · have hF := tx_t h8 hF
    refine lv_iconst (v := (0 : Int32)) hx hb d_F_leavesBlockFree_11 (by decide) ?_
    obtain ⟨hz, hF⟩ := tx_g hF
    have hz := Classical.not_not.mp hz
    exact W.zret hx hb hr (tx_z hz) (fun t ht hW => ⟨_, rfl, (Option.some.inj hF).symm, ht⟩) (fun q h => by cases h) d_F_leavesBlockFree_12
abbrev rm_F_put : Room := { frames := 4, cells := 0, slots := 0, locals := 90 }
set_option maxHeartbeats 4000000 in
set_option maxRecDepth 100000 in
theorem c_F_put (l : Launch) (dC : Nat → ClassId) (dI : Nat → Nat → Nat) (cA : ClassId) (h0 q1 q2 q3 q4 q5 q6 sz : Nat) (st pl tk wd er : Nat → Int32) (nx md : Int32) (a1 : Int32) (a2 : Int64) (a3 : Int32) (st' : Nat → Int32) (pl' : Nat → Int32) (wd' : Nat → Int32) (nx' : Int32) (hF : f_F_put st pl wd nx a1 a2 a3 = some (st', pl', wd', nx')) : Met l y_F_put ws_F_put rm_F_put (tx_PW [.ref h0, .int a1, .long a2, .int a3] (dC, dI) [(cA, .int)] (wF cA h0 q1 q2 q3 q4 q5 q6 st pl tk wd er nx md) sz) (va_Qv (S := Unit) (fun _ => True) (fun _ t => va_P (dC, dI) vwCl (wF cA h0 q1 q2 q3 q4 q5 q6 (st') (pl') tk (wd') er (nx') md) t.heap ∧ va_D (va_A (wF cA h0 q1 q2 q3 q4 q5 q6 st pl tk wd er nx md) sz) (wF cA h0 q1 q2 q3 q4 q5 q6 (st') (pl') tk (wd') er (nx') md)) (va_A (wF cA h0 q1 q2 q3 q4 q5 q6 st pl tk wd er nx md) sz)) 0 0 (va_A (wF cA h0 q1 q2 q3 q4 q5 q6 st pl tk wd er nx md) sz) := by
  refine Met.ofW (cc := b_F_put) (maxL := 6) (ret := none) (by decide +kernel) rfl ?_
  intro p e s m args below meth c s₁ B hml hv
  obtain ⟨hargs, hsz, hP, hK, hD0, hNw⟩ := hv
  have hx := B.exec
  have hb := B.bytes
  have hr := B.returns
  have hts := atoms_spec (ws := ws_F_put) B.pre
  have hown : s.vm.findClass "FlashStore" = some m.cls := findClass_of_methodNamed B.named
  have hlocks := B.notSynchronized
  subst hsz
  have hD := hD0.self (sz := s.heap.size)
  generalize hAe : va_A (wF cA h0 q1 q2 q3 q4 q5 q6 st pl tk wd er nx md) s.heap.size = A at hD ⊢
  have hA : ∀ q : Nat, s.heap.size ≤ q → A q := fun q h => by rw [← hAe]; exact Or.inr h
  have hS : va_S A s.heap s.heap [] := va_S.rf
  have hP : va_P (dC, dI) vwCl (wF cA h0 q1 q2 q3 q4 q5 q6 st pl tk wd er nx md) s.heap := hP
  have w0 := (hts _ (List.mem_cons_of_mem _ bq_1_41))
  have w1 := (hts _ (List.mem_cons_of_mem _ bq_1_45))
  have hl := lv_entry ([.ref h0, .int a1, .long a2, .int a3]) (n := 6) (Nat.le_of_ble_eq_true rfl)
  have hen : entryFrame m args 6 = _ := (congrArg (fun z => entryFrame m z 6) hargs).trans (lg_entry_eq m ([.ref h0, .int a1, .long a2, .int a3]) 6)
  refine W.eq hen ?_
  clear hen
  generalize (lg_sl ([.ref h0, .int a1, .long a2, .int a3]) ++ List.replicate (6 - (lg_sl ([.ref h0, .int a1, .long a2, .int a3])).length) Slot.unset).toArray = ls at hl ⊢
  have hl : lv_has ls 6 [(0, .ref h0), (1, .int a1), (2, .long a2), (4, .int a3)] := hl
  have hF : ((f_F_freePlace st a3).bind fun r3 => if r3 = (-1 : Int32) then (some (st, pl, wd, nx)) else ((f_M_program wd r3 a2 ((a1 <<< ((12 : Int32) &&& 31)) ||| nx)).bind fun wd31 => (f_F_serialBehind nx).bind fun r39 => (f_F_forget st pl a1).bind fun (st47, pl47) => (f_F_hold st47 pl47 a1 r3).bind fun (st54, pl54) => some (st54, pl54, wd31, r39))) = some (st', pl', wd', nx') := hF
  refine lv_aload_n hx hb d_F_put_0 rfl (lv_at hl 0 rfl) ?_
  refine lv_iload hx hb d_F_put_1 (lv_at hl 3 rfl) ?_
  obtain ⟨r3, hc3, hF⟩ := tx_b hF
  refine vp_callSi (W.runV (As := [.int a3]) (rest := []) ⟨hx, hb, hml, hown, hts⟩ (c_F_freePlace l dC dI cA h0 q1 q2 q3 q4 q5 q6 st pl tk wd er nx md a3 r3 hc3) (cwV 1 hts (tg_V bq_2_19 bq_2_21 bq_s_6 bq_1_1 bq_2_22) rfl rfl rfl (by decide +kernel) ⟨Nat.le_of_ble_eq_true rfl, Nat.le_of_ble_eq_true rfl⟩) ⟨tx_blR, (va_recv (ci := 1) (q0 := 0) hK hP rfl rfl), tx_preR (hP) hK⟩ rfl rfl hl.1 rfl (lv_room (Nat.le_of_ble_eq_true rfl)) d_F_put_3 ⟨Nat.zero_le _, Nat.zero_le _⟩) (fun zz hz => ?_)
  subst hz
  refine lv_istore hx hb d_F_put_6 hl (by decide) rfl (fun ls hl => ?_)
  have hl : lv_has ls 6 [(5, .int r3), (0, .ref h0), (1, .int a1), (2, .long a2), (4, .int a3)] := hl
  refine lv_iload hx hb d_F_put_8 (lv_at hl 0 rfl) ?_
  refine lv_iconst (v := (-1 : Int32)) hx hb d_F_put_10 (by decide) ?_
  refine lv_icmp_ne hx hb d_F_put_11 (tgt := 15) (by decide) (fun h11 => ?_) (fun h11 => ?_)
  · have hF := tx_f h11 hF
    refine lv_aload_n hx hb d_F_put_15 rfl (lv_at hl 1 rfl) ?_
    refine va_get (D := (dC, dI)) (ci := 1) (v := .ref q1) (C := "FlashStore") (T := TF) (N := 6) hx hb hts inTF hown hK hP 0 rfl rfl 0 (by decide) w0 (fun _ h9 => h9) rfl d_F_put_16 ?_
    refine lv_iload hx hb d_F_put_19 (lv_at hl 0 rfl) ?_
    refine lv_lload_n hx hb d_F_put_21 rfl (lv_at hl 3 rfl) ?_
    refine lv_iload_n hx hb d_F_put_22 rfl (lv_at hl 2 rfl) ?_
    refine lv_bipush (v := (12 : Int32)) hx hb d_F_put_23 (by decide) ?_
    refine lv_ishl hx hb d_F_put_25 ?_
    refine lv_aload_n hx hb d_F_put_26 rfl (lv_at hl 1 rfl) ?_
    refine va_get (D := (dC, dI)) (ci := 1) (v := .int nx) (C := "FlashStore") (T := TF) (N := 6) hx hb hts inTF hown hK hP 0 rfl rfl 4 (by decide) w1 (fun _ h9 => h9) rfl d_F_put_27 ?_
    refine lv_ior hx hb d_F_put_30 ?_
    obtain ⟨wd31, hc31, hF⟩ := tx_b hF
    have hPc := hP.sub (ws' := (wM cA q1 q5 q6 wd er)) [1, 5, 6] rfl
    have hDc := hD.sub (ws' := (wM cA q1 q5 q6 wd er)) [1, 5, 6] (by decide) rfl
    have hFc := va_free (wc := (wM cA q1 q5 q6 wd er)) hD hS hA [1, 5, 6] rfl
    refine va_callv (va_runV (As := [.int r3, .long a2, .int ((a1 <<< ((12 : Int32) &&& 31)) ||| nx)]) (rest := []) ⟨hx, hb, hml, hown, hts⟩ (c_M_program l dC dI cA q1 q5 q6 s.heap.size wd er r3 a2 ((a1 <<< ((12 : Int32) &&& 31)) ||| nx) wd31 hc31) (cwV 3 hts (tg_V bq_2_97 bq_2_98 bq_2_99 bq_1_2 bq_2_100) rfl rfl rfl (by decide +kernel) ⟨Nat.le_of_ble_eq_true rfl, Nat.le_of_ble_eq_true rfl⟩) ⟨tx_blW, (va_recv (ci := 0) (q0 := 1) hK hP rfl rfl), tx_preW hPc hDc hK hNw⟩ rfl rfl hl.1 rfl (lv_room (Nat.le_of_ble_eq_true rfl)) d_F_put_31 ⟨Nat.zero_le _, Nat.zero_le _⟩) hS (fun q _ h => hFc q h) hFc (fun _u t H locs ht hvm hw hB hz1 hk1 hS => ?_)
    obtain ⟨hP1, hD1⟩ := hB
    rw [ht] at hP1
    obtain ⟨hP2, hD2⟩ := va_join (wr := [(h0, .inr (1, [.ref q1, .ref q2, .ref q3, .ref q4, .int nx, .int md])), (q2, .inl (cA, 16, .inl st)), (q3, .inl (cA, 8, .inl pl)), (q4, .inl (cA, 8, .inl tk))]) (w1 := (wM cA q1 q5 q6 wd31 er)) hP hD [1, 5, 6] [0, 2, 3, 4] rfl rfl (by decide) (by decide) hk1 hFc hP1 hD1
    have hP := hP2.sub (ws' := (wF cA h0 q1 q2 q3 q4 q5 q6 st pl tk wd31 er nx md)) [0, 4, 1, 2, 3, 5, 6] rfl
    have hD := hD2.sub (ws' := (wF cA h0 q1 q2 q3 q4 q5 q6 st pl tk wd31 er nx md)) [0, 4, 1, 2, 3, 5, 6] (by decide) rfl
    refine lv_aload_n hx hb d_F_put_34 rfl (lv_at hl 1 rfl) ?_
    refine lv_aload_n hx hb d_F_put_35 rfl (lv_at hl 1 rfl) ?_
    refine va_get (D := (dC, dI)) (ci := 1) (v := .int nx) (C := "FlashStore") (T := TF) (N := 6) hx hb hts inTF hown hK hP 0 rfl rfl 4 (by decide) w1 (fun _ h9 => h9) rfl d_F_put_36 ?_
    obtain ⟨r39, hc39, hF⟩ := tx_b hF
    refine vp_callSi (W.runS (As := [.int nx]) (rest := [.ref h0]) ⟨hx, hb, hml, hown, hts⟩ (c_F_serialBehind l nx r39 hc39) (va_cwS 1 hts (tg_S bq_1_125 bq_1_126 bq_1_1 bq_1_127) rfl rfl rfl (by decide +kernel) ⟨Nat.le_of_ble_eq_true rfl, Nat.le_of_ble_eq_true rfl⟩) ⟨tx_bl0, tx_pre0⟩ rfl rfl hl.1 rfl (lv_room (Nat.le_of_ble_eq_true rfl)) d_F_put_39 ⟨Nat.zero_le _, Nat.zero_le _⟩) (fun zz hz => ?_)
    subst hz
    refine va_put (D := (dC, dI)) (ci := 1) (v := .int r39) (ty := .int) (C := "FlashStore") (T := TF) (N := 6) hx hb hts inTF tyTF tyTF_ok nmTF hown hK hP hD hS 0 rfl rfl 4 (by decide) w1 (fun _ h9 => h9) rfl (by decide +kernel) rfl rfl (Nat.le_of_ble_eq_true rfl) d_F_put_42 (fun H locs hP hD hS => ?_)
    have hP : va_P (dC, dI) vwCl (wF cA h0 q1 q2 q3 q4 q5 q6 st pl tk wd31 er r39 md) H := hP
    have hD : va_D A (wF cA h0 q1 q2 q3 q4 q5 q6 st pl tk wd31 er r39 md) := hD
    refine lv_aload_n hx hb d_F_put_45 rfl (lv_at hl 1 rfl) ?_
    refine lv_iload_n hx hb d_F_put_46 rfl (lv_at hl 2 rfl) ?_
    obtain ⟨⟨st47, pl47⟩, hc47, hF⟩ := tx_b hF
    try dsimp only at hF
    have hPc := hP.sub (ws' := (wF cA h0 q1 q2 q3 q4 q5 q6 st pl tk wd31 er r39 md)) [0, 1, 2, 3, 4, 5, 6] rfl
    have hDc := hD.sub (ws' := (wF cA h0 q1 q2 q3 q4 q5 q6 st pl tk wd31 er r39 md)) [0, 1, 2, 3, 4, 5, 6] (by decide) rfl
    have hFc := va_free (wc := (wF cA h0 q1 q2 q3 q4 q5 q6 st pl tk wd31 er r39 md)) hD hS hA [0, 1, 2, 3, 4, 5, 6] rfl
    refine va_callv (va_runV (As := [.int a1]) (rest := []) ⟨hx, hb, hml, hown, hts⟩ (c_F_forget l dC dI cA h0 q1 q2 q3 q4 q5 q6 H.size st pl tk wd31 er r39 md a1 st47 pl47 hc47) (cwV 1 hts (tg_V bq_1_117 bq_1_119 bq_s_1 bq_1_1 bq_1_120) rfl rfl rfl (by decide +kernel) ⟨Nat.le_of_ble_eq_true rfl, Nat.le_of_ble_eq_true rfl⟩) ⟨tx_blW, (va_recv (ci := 1) (q0 := 0) hK hP rfl rfl), tx_preW hPc hDc hK hNw⟩ rfl rfl hl.1 rfl (lv_room (Nat.le_of_ble_eq_true rfl)) d_F_put_47 ⟨Nat.zero_le _, Nat.zero_le _⟩) hS (fun q _ h => hFc q h) hFc (fun _u t H locs ht hvm hw hB hz1 hk1 hS => ?_)
    obtain ⟨hP1, hD1⟩ := hB
    rw [ht] at hP1
    obtain ⟨hP2, hD2⟩ := va_join (wr := []) (w1 := (wF cA h0 q1 q2 q3 q4 q5 q6 st47 pl47 tk wd31 er r39 md)) hP hD [0, 1, 2, 3, 4, 5, 6] [] rfl rfl (by decide) (by decide) hk1 hFc hP1 hD1
    have hP := hP2.sub (ws' := (wF cA h0 q1 q2 q3 q4 q5 q6 st47 pl47 tk wd31 er r39 md)) [0, 1, 2, 3, 4, 5, 6] rfl
    have hD := hD2.sub (ws' := (wF cA h0 q1 q2 q3 q4 q5 q6 st47 pl47 tk wd31 er r39 md)) [0, 1, 2, 3, 4, 5, 6] (by decide) rfl
    refine lv_aload_n hx hb d_F_put_50 rfl (lv_at hl 1 rfl) ?_
    refine lv_iload_n hx hb d_F_put_51 rfl (lv_at hl 2 rfl) ?_
    refine lv_iload hx hb d_F_put_52 (lv_at hl 0 rfl) ?_
    obtain ⟨⟨st54, pl54⟩, hc54, hF⟩ := tx_b hF
    try dsimp only at hF
    have hPc := hP.sub (ws' := (wF cA h0 q1 q2 q3 q4 q5 q6 st47 pl47 tk wd31 er r39 md)) [0, 1, 2, 3, 4, 5, 6] rfl
    have hDc := hD.sub (ws' := (wF cA h0 q1 q2 q3 q4 q5 q6 st47 pl47 tk wd31 er r39 md)) [0, 1, 2, 3, 4, 5, 6] (by decide) rfl
    have hFc := va_free (wc := (wF cA h0 q1 q2 q3 q4 q5 q6 st47 pl47 tk wd31 er r39 md)) hD hS hA [0, 1, 2, 3, 4, 5, 6] rfl
    refine va_callv (va_runV (As := [.int a1, .int r3]) (rest := []) ⟨hx, hb, hml, hown, hts⟩ (c_F_hold l dC dI cA h0 q1 q2 q3 q4 q5 q6 H.size st47 pl47 tk wd31 er r39 md a1 r3 st54 pl54 hc54) (cwV 2 hts (tg_V bq_1_121 bq_1_123 bq_s_2 bq_1_1 bq_1_124) rfl rfl rfl (by decide +kernel) ⟨Nat.le_of_ble_eq_true rfl, Nat.le_of_ble_eq_true rfl⟩) ⟨tx_blW, (va_recv (ci := 1) (q0 := 0) hK hP rfl rfl), tx_preW hPc hDc hK hNw⟩ rfl rfl hl.1 rfl (lv_room (Nat.le_of_ble_eq_true rfl)) d_F_put_54 ⟨Nat.zero_le _, Nat.zero_le _⟩) hS (fun q _ h => hFc q h) hFc (fun _u t H locs ht hvm hw hB hz1 hk1 hS => ?_)
    obtain ⟨hP1, hD1⟩ := hB
    rw [ht] at hP1
    obtain ⟨hP2, hD2⟩ := va_join (wr := []) (w1 := (wF cA h0 q1 q2 q3 q4 q5 q6 st54 pl54 tk wd31 er r39 md)) hP hD [0, 1, 2, 3, 4, 5, 6] [] rfl rfl (by decide) (by decide) hk1 hFc hP1 hD1
    have hP := hP2.sub (ws' := (wF cA h0 q1 q2 q3 q4 q5 q6 st54 pl54 tk wd31 er r39 md)) [0, 1, 2, 3, 4, 5, 6] rfl
    have hD := hD2.sub (ws' := (wF cA h0 q1 q2 q3 q4 q5 q6 st54 pl54 tk wd31 er r39 md)) [0, 1, 2, 3, 4, 5, 6] (by decide) rfl
    cases hF
    exact W.vret hx hb hr (fun t ht hW => ⟨⟨(), rfl, trivial, by rw [ht]; exact hP, hD⟩, hS.F ht⟩) hS.2.2 d_F_put_57
  · have hF := tx_t h11 hF
    cases hF
    exact W.vret hx hb hr (fun t ht hW => ⟨⟨(), rfl, trivial, by rw [ht]; exact hP, hD⟩, hS.F ht⟩) hS.2.2 d_F_put_14
abbrev rm_F_countFreeOutside : Room := { frames := 2, cells := 0, slots := 0, locals := 45 }
set_option maxHeartbeats 4000000 in
set_option maxRecDepth 100000 in
theorem c_F_countFreeOutside (l : Launch) (dC : Nat → ClassId) (dI : Nat → Nat → Nat) (cA : ClassId) (h0 q1 q2 q3 q4 q5 q6 : Nat) (st pl tk wd er : Nat → Int32) (nx md : Int32) (a1 : Int32) (r : Int32)  (hF : f_F_countFreeOutside st a1 = some r) : Met l y_F_countFreeOutside ws_F_countFreeOutside rm_F_countFreeOutside (tx_PR [.ref h0, .int a1] (dC, dI) [(cA, .int)] (wF cA h0 q1 q2 q3 q4 q5 q6 st pl tk wd er nx md)) (vp_Si (fun z => r = z)) 0 0 (fun _ => False) := by
  refine Met.ofW (cc := b_F_countFreeOutside) (maxL := 4) (ret := some .int) (by decide +kernel) rfl ?_
  intro p e s m args below meth c s₁ B hml hv
  obtain ⟨hargs, hP, hK⟩ := hv
  have hx := B.exec
  have hb := B.bytes
  have hr := B.returns
  have hts := atoms_spec (ws := ws_F_countFreeOutside) B.pre
  have hown : s.vm.findClass "FlashStore" = some m.cls := findClass_of_methodNamed B.named
  have hlocks := B.notSynchronized
  have hl := lv_entry ([.ref h0, .int a1]) (n := 4) (Nat.le_of_ble_eq_true rfl)
  have hen : entryFrame m args 4 = _ := (congrArg (fun z => entryFrame m z 4) hargs).trans (lg_entry_eq m ([.ref h0, .int a1]) 4)
  refine W.eq hen ?_
  clear hen
  generalize (lg_sl ([.ref h0, .int a1]) ++ List.replicate (4 - (lg_sl ([.ref h0, .int a1])).length) Slot.unset).toArray = ls at hl ⊢
  have hl : lv_has ls 4 [(0, .ref h0), (1, .int a1)] := hl
  have J25 : ∀ (rc : (Nat → Int32) → Int32 → Int32 → Int32 → Option (Int32)) (hrec0 : ∀ (ls : Array Slot) (v1 : Int32) (v2 : Int32) (v3 : Int32), lv_has ls 4 [(0, .ref h0), (1, .int v1), (2, .int v2), (3, .int v3)] → rc st v1 v2 v3 = some r → W p l e (headSpec ws_F_countFreeOutside rm_F_countFreeOutside).room s m args below meth c s.heap [] 0 0 (MQ below (vp_Si (fun z => r = z)) args s 0 0 (fun _ => False)) (F0 m 4 ls [])), ∀ (ls : Array Slot) (v1 : Int32) (v3 : Int32) (z0 : Int32) (z1 : Int32), lv_has ls 4 [(0, .ref h0), (1, .int v1), (3, .int v3)] → f_F_countFreeOutside_J25 rc st v1 v3 z0 z1 = some r → W p l e (headSpec ws_F_countFreeOutside rm_F_countFreeOutside).room s m args below meth c s.heap [] 0 0 (MQ below (vp_Si (fun z => r = z)) args s 0 0 (fun _ => False)) (F0 m 25 ls [.int z0, .int z1]) := by
    intro rc hrec0
    intro ls v1 v3 z0 z1 hl hF
    have hF : (rc st v1 (z1 + z0) (v3 + (1 : Int32))) = some r := hF
    refine lv_iadd hx hb d_F_countFreeOutside_25 ?_
    refine lv_istore_n hx hb d_F_countFreeOutside_26 rfl hl (by decide) rfl (fun ls hl => ?_)
    have hl : lv_has ls 4 [(2, .int (z1 + z0)), (0, .ref h0), (1, .int v1), (3, .int v3)] := hl
    refine lv_iinc (k := 3) (v := (v3 + (1 : Int32))) hx hb d_F_countFreeOutside_27 hl rfl rfl (by decide) rfl (fun ls hl => ?_)
    have hl : lv_has ls 4 [(3, .int (v3 + (1 : Int32))), (2, .int (z1 + z0)), (0, .ref h0), (1, .int v1)] := hl
    refine lv_goto hx hb d_F_countFreeOutside_30 (tgt := 4) (by decide) ?_
    exact hrec0 _ v1 (z1 + z0) (v3 + (1 : Int32)) (lv_sub hl [2, 3, 1, 0] rfl) hF
  have LH : ∀ n : Nat, (∀ (ls : Array Slot) (v1 : Int32) (v2 : Int32) (v3 : Int32), lv_has ls 4 [(0, .ref h0), (1, .int v1), (2, .int v2), (3, .int v3)] → f_F_countFreeOutside_H n st v1 v2 v3 = some r → W p l e (headSpec ws_F_countFreeOutside rm_F_countFreeOutside).room s m args below meth c s.heap [] 0 0 (MQ below (vp_Si (fun z => r = z)) args s 0 0 (fun _ => False)) (F0 m 4 ls [])) := by
    intro n
    induction n with
    | zero =>
      exact (by intro ls v1 v2 v3 hl hF; have hF : (none : Option (Int32)) = _ := hF; cases hF)
    | succ n ih =>
      have hrec0 := ih
      intro ls v1 v2 v3 hl hF
      have hF : (if (4 : Int32) ≤ v3 then (some v2) else (if v3 = v1 then (f_F_countFreeOutside_J25 (f_F_countFreeOutside_H n) st v1 v3 (0 : Int32) v2) else ((f_F_countInBlock st v3 (0 : Int32)).bind fun r18 => f_F_countFreeOutside_J25 (f_F_countFreeOutside_H n) st v1 v3 r18 v2))) = some r := hF
      refine lv_iload_n hx hb d_F_countFreeOutside_4 rfl (lv_at hl 3 rfl) ?_
      refine lv_iconst (v := (4 : Int32)) hx hb d_F_countFreeOutside_5 (by decide) ?_
      refine lv_icmp_ge hx hb d_F_countFreeOutside_6 (tgt := 33) (by decide) (fun h6 => ?_) (fun h6 => ?_)
      · have hF := tx_t h6 hF
        refine lv_iload_n hx hb d_F_countFreeOutside_33 rfl (lv_at hl 2 rfl) ?_
        exact W.iret hx hb hr (fun t ht hW => ⟨_, rfl, (Option.some.inj hF).symm, ht⟩) (fun q h => by cases h) d_F_countFreeOutside_34
      · have hF := tx_f h6 hF
        refine lv_iload_n hx hb d_F_countFreeOutside_9 rfl (lv_at hl 2 rfl) ?_
        refine lv_iload_n hx hb d_F_countFreeOutside_10 rfl (lv_at hl 3 rfl) ?_
        refine lv_iload_n hx hb d_F_countFreeOutside_11 rfl (lv_at hl 1 rfl) ?_
        refine lv_icmp_eq hx hb d_F_countFreeOutside_12 (tgt := 24) (by decide) (fun h12 => ?_) (fun h12 => ?_)
        · have hF := tx_t h12 hF
          refine lv_iconst (v := (0 : Int32)) hx hb d_F_countFreeOutside_24 (by decide) ?_
          exact J25 _ hrec0 _ v1 v3 (0 : Int32) v2 (lv_sub hl [0, 1, 3] rfl) hF
        · have hF := tx_f h12 hF
          refine lv_aload_n hx hb d_F_countFreeOutside_15 rfl (lv_at hl 0 rfl) ?_
          refine lv_iload_n hx hb d_F_countFreeOutside_16 rfl (lv_at hl 3 rfl) ?_
          refine lv_iconst (v := (0 : Int32)) hx hb d_F_countFreeOutside_17 (by decide) ?_
          obtain ⟨r18, hc18, hF⟩ := tx_b hF
          refine vp_callSi (W.runV (As := [.int v3, .int (0 : Int32)]) (rest := [.int v2]) ⟨hx, hb, hml, hown, hts⟩ (c_F_countInBlock l dC dI cA h0 q1 q2 q3 q4 q5 q6 st pl tk wd er nx md v3 (0 : Int32) r18 hc18) (cwV 2 hts (tg_V bq_2_30 bq_2_32 bq_s_8 bq_1_1 bq_2_33) rfl rfl rfl (by decide +kernel) ⟨Nat.le_of_ble_eq_true rfl, Nat.le_of_ble_eq_true rfl⟩) ⟨tx_blR, (va_recv (ci := 1) (q0 := 0) hK hP rfl rfl), tx_preR (hP) hK⟩ rfl rfl hl.1 rfl (lv_room (Nat.le_of_ble_eq_true rfl)) d_F_countFreeOutside_18 ⟨Nat.zero_le _, Nat.zero_le _⟩) (fun zz hz => ?_)
          subst hz
          refine lv_goto hx hb d_F_countFreeOutside_21 (tgt := 25) (by decide) ?_
          exact J25 _ hrec0 _ v1 v3 r18 v2 (lv_sub hl [0, 1, 3] rfl) hF
  obtain hrec0 := LH 100
  have hF : (f_F_countFreeOutside_H 100 st a1 (0 : Int32) (0 : Int32)) = some r := hF
  refine lv_iconst (v := (0 : Int32)) hx hb d_F_countFreeOutside_0 (by decide) ?_
  refine lv_istore_n hx hb d_F_countFreeOutside_1 rfl hl (by decide) rfl (fun ls hl => ?_)
  have hl : lv_has ls 4 [(2, .int (0 : Int32)), (0, .ref h0), (1, .int a1)] := hl
  refine lv_iconst (v := (0 : Int32)) hx hb d_F_countFreeOutside_2 (by decide) ?_
  refine lv_istore_n hx hb d_F_countFreeOutside_3 rfl hl (by decide) rfl (fun ls hl => ?_)
  have hl : lv_has ls 4 [(3, .int (0 : Int32)), (2, .int (0 : Int32)), (0, .ref h0), (1, .int a1)] := hl
  exact hrec0 _ a1 (0 : Int32) (0 : Int32) (lv_sub hl [2, 3, 1, 0] rfl) hF
abbrev rm_F_canBeCleaned : Room := { frames := 3, cells := 0, slots := 0, locals := 68 }
set_option maxHeartbeats 4000000 in
set_option maxRecDepth 100000 in
theorem c_F_canBeCleaned (l : Launch) (dC : Nat → ClassId) (dI : Nat → Nat → Nat) (cA : ClassId) (h0 q1 q2 q3 q4 q5 q6 : Nat) (st pl tk wd er : Nat → Int32) (nx md : Int32) (a1 : Int32) (r : Int32)  (hF : f_F_canBeCleaned st a1 = some r) : Met l y_F_canBeCleaned ws_F_canBeCleaned rm_F_canBeCleaned (tx_PR [.ref h0, .int a1] (dC, dI) [(cA, .int)] (wF cA h0 q1 q2 q3 q4 q5 q6 st pl tk wd er nx md)) (vp_Si (fun z => r = z)) 0 0 (fun _ => False) := by
  refine Met.ofW (cc := b_F_canBeCleaned) (maxL := 3) (ret := some .boolean) (by decide +kernel) rfl ?_
  intro p e s m args below meth c s₁ B hml hv
  obtain ⟨hargs, hP, hK⟩ := hv
  have hx := B.exec
  have hb := B.bytes
  have hr := B.returns
  have hts := atoms_spec (ws := ws_F_canBeCleaned) B.pre
  have hown : s.vm.findClass "FlashStore" = some m.cls := findClass_of_methodNamed B.named
  have hlocks := B.notSynchronized
  have hl := lv_entry ([.ref h0, .int a1]) (n := 3) (Nat.le_of_ble_eq_true rfl)
  have hen : entryFrame m args 3 = _ := (congrArg (fun z => entryFrame m z 3) hargs).trans (lg_entry_eq m ([.ref h0, .int a1]) 3)
  refine W.eq hen ?_
  clear hen
  generalize (lg_sl ([.ref h0, .int a1]) ++ List.replicate (3 - (lg_sl ([.ref h0, .int a1])).length) Slot.unset).toArray = ls at hl ⊢
  have hl : lv_has ls 3 [(0, .ref h0), (1, .int a1)] := hl
  have J34 : ∀ (ls : Array Slot) (z0 : Int32), lv_has ls 3 [] → f_F_canBeCleaned_J34 st z0 = some r → W p l e (headSpec ws_F_canBeCleaned rm_F_canBeCleaned).room s m args below meth c s.heap [] 0 0 (MQ below (vp_Si (fun z => r = z)) args s 0 0 (fun _ => False)) (F0 m 34 ls [.int z0]) := by
    intro ls z0 hl hF
    have hF : (if ¬ (z0 = 0 ∨ z0 = 1) then none else some z0) = some r := hF
    obtain ⟨hz, hF⟩ := tx_g hF
    have hz := Classical.not_not.mp hz
    exact W.zret hx hb hr (tx_z hz) (fun t ht hW => ⟨_, rfl, (Option.some.inj hF).symm, ht⟩) (fun q h => by cases h) d_F_canBeCleaned_34
  have J33 : ∀ (ls : Array Slot), lv_has ls 3 [] → f_F_canBeCleaned_J33 st = some r → W p l e (headSpec ws_F_canBeCleaned rm_F_canBeCleaned).room s m args below meth c s.heap [] 0 0 (MQ below (vp_Si (fun z => r = z)) args s 0 0 (fun _ => False)) (F0 m 33 ls []) := by
    intro ls hl hF
    have hF : (f_F_canBeCleaned_J34 st (0 : Int32)) = some r := hF
    refine lv_iconst (v := (0 : Int32)) hx hb d_F_canBeCleaned_33 (by decide) ?_
    exact J34 _ (0 : Int32) hl hF
  have hF : ((f_F_countInBlock st a1 (1 : Int32)).bind fun r3 => (f_F_isWholeFree st a1).bind fun r9 => if r9 = 0 then (if (4 : Int32) ≤ r3 then (f_F_canBeCleaned_J33 st) else ((f_F_countFreeOutside st a1).bind fun r23 => if r23 < r3 then (f_F_canBeCleaned_J33 st) else (f_F_canBeCleaned_J34 st (1 : Int32)))) else (f_F_canBeCleaned_J33 st)) = some r := hF
  refine lv_aload_n hx hb d_F_canBeCleaned_0 rfl (lv_at hl 0 rfl) ?_
  refine lv_iload_n hx hb d_F_canBeCleaned_1 rfl (lv_at hl 1 rfl) ?_
  refine lv_iconst (v := (1 : Int32)) hx hb d_F_canBeCleaned_2 (by decide) ?_
  obtain ⟨r3, hc3, hF⟩ := tx_b hF
  refine vp_callSi (W.runV (As := [.int a1, .int (1 : Int32)]) (rest := []) ⟨hx, hb, hml, hown, hts⟩ (c_F_countInBlock l dC dI cA h0 q1 q2 q3 q4 q5 q6 st pl tk wd er nx md a1 (1 : Int32) r3 hc3) (cwV 2 hts (tg_V bq_2_30 bq_2_32 bq_s_8 bq_1_1 bq_2_33) rfl rfl rfl (by decide +kernel) ⟨Nat.le_of_ble_eq_true rfl, Nat.le_of_ble_eq_true rfl⟩) ⟨tx_blR, (va_recv (ci := 1) (q0 := 0) hK hP rfl rfl), tx_preR (hP) hK⟩ rfl rfl hl.1 rfl (lv_room (Nat.le_of_ble_eq_true rfl)) d_F_canBeCleaned_3 ⟨Nat.zero_le _, Nat.zero_le _⟩) (fun zz hz => ?_)
  subst hz
  refine lv_istore_n hx hb d_F_canBeCleaned_6 rfl hl (by decide) rfl (fun ls hl => ?_)
  have hl : lv_has ls 3 [(2, .int r3), (0, .ref h0), (1, .int a1)] := hl
  refine lv_aload_n hx hb d_F_canBeCleaned_7 rfl (lv_at hl 1 rfl) ?_
  refine lv_iload_n hx hb d_F_canBeCleaned_8 rfl (lv_at hl 2 rfl) ?_
  obtain ⟨r9, hc9, hF⟩ := tx_b hF
  refine vp_callSi (W.runV (As := [.int a1]) (rest := []) ⟨hx, hb, hml, hown, hts⟩ (c_F_isWholeFree l dC dI cA h0 q1 q2 q3 q4 q5 q6 st pl tk wd er nx md a1 r9 hc9) (cwV 1 hts (tg_V bq_2_26 bq_2_28 bq_s_7 bq_1_1 bq_2_29) rfl rfl rfl (by decide +kernel) ⟨Nat.le_of_ble_eq_true rfl, Nat.le_of_ble_eq_true rfl⟩) ⟨tx_blR, (va_recv (ci := 1) (q0 := 0) hK hP rfl rfl), tx_preR (hP) hK⟩ rfl rfl hl.1 rfl (lv_room (Nat.le_of_ble_eq_true rfl)) d_F_canBeCleaned_9 ⟨Nat.zero_le _, Nat.zero_le _⟩) (fun zz hz => ?_)
  subst hz
  refine lv_if_ne hx hb d_F_canBeCleaned_12 (tgt := 33) (by decide) (fun h12 => ?_) (fun h12 => ?_)
  · have hF := tx_f h12 hF
    exact J33 _ (lv_sub hl [] rfl) hF
  · have hF := tx_t h12 hF
    refine lv_iload_n hx hb d_F_canBeCleaned_15 rfl (lv_at hl 0 rfl) ?_
    refine lv_iconst (v := (4 : Int32)) hx hb d_F_canBeCleaned_16 (by decide) ?_
    refine lv_icmp_ge hx hb d_F_canBeCleaned_17 (tgt := 33) (by decide) (fun h17 => ?_) (fun h17 => ?_)
    · have hF := tx_t h17 hF
      exact J33 _ (lv_sub hl [] rfl) hF
    · have hF := tx_f h17 hF
      refine lv_iload_n hx hb d_F_canBeCleaned_20 rfl (lv_at hl 0 rfl) ?_
      refine lv_aload_n hx hb d_F_canBeCleaned_21 rfl (lv_at hl 1 rfl) ?_
      refine lv_iload_n hx hb d_F_canBeCleaned_22 rfl (lv_at hl 2 rfl) ?_
      obtain ⟨r23, hc23, hF⟩ := tx_b hF
      refine vp_callSi (W.runV (As := [.int a1]) (rest := [.int r3]) ⟨hx, hb, hml, hown, hts⟩ (c_F_countFreeOutside l dC dI cA h0 q1 q2 q3 q4 q5 q6 st pl tk wd er nx md a1 r23 hc23) (cwV 1 hts (tg_V bq_2_45 bq_2_47 bq_s_11 bq_1_1 bq_2_48) rfl rfl rfl (by decide +kernel) ⟨Nat.le_of_ble_eq_true rfl, Nat.le_of_ble_eq_true rfl⟩) ⟨tx_blR, (va_recv (ci := 1) (q0 := 0) hK hP rfl rfl), tx_preR (hP) hK⟩ rfl rfl hl.1 rfl (lv_room (Nat.le_of_ble_eq_true rfl)) d_F_canBeCleaned_23 ⟨Nat.zero_le _, Nat.zero_le _⟩) (fun zz hz => ?_)
      subst hz
      refine lv_icmp_gt hx hb d_F_canBeCleaned_26 (tgt := 33) (by decide) (fun h26 => ?_) (fun h26 => ?_)
      · have hF := tx_t h26 hF
        exact J33 _ (lv_sub hl [] rfl) hF
      · have hF := tx_f h26 hF
        refine lv_iconst (v := (1 : Int32)) hx hb d_F_canBeCleaned_29 (by decide) ?_
        refine lv_goto hx hb d_F_canBeCleaned_30 (tgt := 34) (by decide) ?_
        exact J34 _ (1 : Int32) (lv_sub hl [] rfl) hF
abbrev rm_F_isBetterToClean : Room := { frames := 2, cells := 0, slots := 0, locals := 45 }
set_option maxHeartbeats 4000000 in
set_option maxRecDepth 100000 in
theorem c_F_isBetterToClean (l : Launch) (dC : Nat → ClassId) (dI : Nat → Nat → Nat) (cA : ClassId) (h0 q1 q2 q3 q4 q5 q6 : Nat) (st pl tk wd er : Nat → Int32) (nx md : Int32) (a1 : Int32) (a2 : Int32) (r : Int32)  (hF : f_F_isBetterToClean st er a1 a2 = some r) : Met l y_F_isBetterToClean ws_F_isBetterToClean rm_F_isBetterToClean (tx_PR [.ref h0, .int a1, .int a2] (dC, dI) [(cA, .int)] (wF cA h0 q1 q2 q3 q4 q5 q6 st pl tk wd er nx md)) (vp_Si (fun z => r = z)) 0 0 (fun _ => False) := by
  refine Met.ofW (cc := b_F_isBetterToClean) (maxL := 5) (ret := some .boolean) (by decide +kernel) rfl ?_
  intro p e s m args below meth c s₁ B hml hv
  obtain ⟨hargs, hP, hK⟩ := hv
  have hx := B.exec
  have hb := B.bytes
  have hr := B.returns
  have hts := atoms_spec (ws := ws_F_isBetterToClean) B.pre
  have hown : s.vm.findClass "FlashStore" = some m.cls := findClass_of_methodNamed B.named
  have hlocks := B.notSynchronized
  have w0 := (hts _ (List.mem_cons_of_mem _ bq_1_41))
  have hl := lv_entry ([.ref h0, .int a1, .int a2]) (n := 5) (Nat.le_of_ble_eq_true rfl)
  have hen : entryFrame m args 5 = _ := (congrArg (fun z => entryFrame m z 5) hargs).trans (lg_entry_eq m ([.ref h0, .int a1, .int a2]) 5)
  refine W.eq hen ?_
  clear hen
  generalize (lg_sl ([.ref h0, .int a1, .int a2]) ++ List.replicate (5 - (lg_sl ([.ref h0, .int a1, .int a2])).length) Slot.unset).toArray = ls at hl ⊢
  have hl : lv_has ls 5 [(0, .ref h0), (1, .int a1), (2, .int a2)] := hl
  have J59 : ∀ (ls : Array Slot) (z0 : Int32), lv_has ls 5 [] → f_F_isBetterToClean_J59 st er z0 = some r → W p l e (headSpec ws_F_isBetterToClean rm_F_isBetterToClean).room s m args below meth c s.heap [] 0 0 (MQ below (vp_Si (fun z => r = z)) args s 0 0 (fun _ => False)) (F0 m 59 ls [.int z0]) := by
    intro ls z0 hl hF
    have hF : (if ¬ (z0 = 0 ∨ z0 = 1) then none else some z0) = some r := hF
    obtain ⟨hz, hF⟩ := tx_g hF
    have hz := Classical.not_not.mp hz
    exact W.zret hx hb hr (tx_z hz) (fun t ht hW => ⟨_, rfl, (Option.some.inj hF).symm, ht⟩) (fun q h => by cases h) d_F_isBetterToClean_59
  have hF : ((f_F_countInBlock st a1 (1 : Int32)).bind fun r3 => (f_F_countInBlock st a2 (1 : Int32)).bind fun r10 => if r3 = r10 then ((f_M_erasuresOf er a1).bind fun r40 => (f_M_erasuresOf er a2).bind fun r48 => if r48 ≤ r40 then (f_F_isBetterToClean_J59 st er (0 : Int32)) else (f_F_isBetterToClean_J59 st er (1 : Int32))) else (if r10 ≤ r3 then (f_F_isBetterToClean_J59 st er (0 : Int32)) else (f_F_isBetterToClean_J59 st er (1 : Int32)))) = some r := hF
  refine lv_aload_n hx hb d_F_isBetterToClean_0 rfl (lv_at hl 0 rfl) ?_
  refine lv_iload_n hx hb d_F_isBetterToClean_1 rfl (lv_at hl 1 rfl) ?_
  refine lv_iconst (v := (1 : Int32)) hx hb d_F_isBetterToClean_2 (by decide) ?_
  obtain ⟨r3, hc3, hF⟩ := tx_b hF
  refine vp_callSi (W.runV (As := [.int a1, .int (1 : Int32)]) (rest := []) ⟨hx, hb, hml, hown, hts⟩ (c_F_countInBlock l dC dI cA h0 q1 q2 q3 q4 q5 q6 st pl tk wd er nx md a1 (1 : Int32) r3 hc3) (cwV 2 hts (tg_V bq_2_30 bq_2_32 bq_s_8 bq_1_1 bq_2_33) rfl rfl rfl (by decide +kernel) ⟨Nat.le_of_ble_eq_true rfl, Nat.le_of_ble_eq_true rfl⟩) ⟨tx_blR, (va_recv (ci := 1) (q0 := 0) hK hP rfl rfl), tx_preR (hP) hK⟩ rfl rfl hl.1 rfl (lv_room (Nat.le_of_ble_eq_true rfl)) d_F_isBetterToClean_3 ⟨Nat.zero_le _, Nat.zero_le _⟩) (fun zz hz => ?_)
  subst hz
  refine lv_istore_n hx hb d_F_isBetterToClean_6 rfl hl (by decide) rfl (fun ls hl => ?_)
  have hl : lv_has ls 5 [(3, .int r3), (0, .ref h0), (1, .int a1), (2, .int a2)] := hl
  refine lv_aload_n hx hb d_F_isBetterToClean_7 rfl (lv_at hl 1 rfl) ?_
  refine lv_iload_n hx hb d_F_isBetterToClean_8 rfl (lv_at hl 3 rfl) ?_
  refine lv_iconst (v := (1 : Int32)) hx hb d_F_isBetterToClean_9 (by decide) ?_
  obtain ⟨r10, hc10, hF⟩ := tx_b hF
  refine vp_callSi (W.runV (As := [.int a2, .int (1 : Int32)]) (rest := []) ⟨hx, hb, hml, hown, hts⟩ (c_F_countInBlock l dC dI cA h0 q1 q2 q3 q4 q5 q6 st pl tk wd er nx md a2 (1 : Int32) r10 hc10) (cwV 2 hts (tg_V bq_2_30 bq_2_32 bq_s_8 bq_1_1 bq_2_33) rfl rfl rfl (by decide +kernel) ⟨Nat.le_of_ble_eq_true rfl, Nat.le_of_ble_eq_true rfl⟩) ⟨tx_blR, (va_recv (ci := 1) (q0 := 0) hK hP rfl rfl), tx_preR (hP) hK⟩ rfl rfl hl.1 rfl (lv_room (Nat.le_of_ble_eq_true rfl)) d_F_isBetterToClean_10 ⟨Nat.zero_le _, Nat.zero_le _⟩) (fun zz hz => ?_)
  subst hz
  refine lv_istore hx hb d_F_isBetterToClean_13 hl (by decide) rfl (fun ls hl => ?_)
  have hl : lv_has ls 5 [(4, .int r10), (3, .int r3), (0, .ref h0), (1, .int a1), (2, .int a2)] := hl
  refine lv_iload_n hx hb d_F_isBetterToClean_15 rfl (lv_at hl 1 rfl) ?_
  refine lv_iload hx hb d_F_isBetterToClean_16 (lv_at hl 0 rfl) ?_
  refine lv_icmp_eq hx hb d_F_isBetterToClean_18 (tgt := 35) (by decide) (fun h18 => ?_) (fun h18 => ?_)
  · have hF := tx_t h18 hF
    refine lv_aload_n hx hb d_F_isBetterToClean_35 rfl (lv_at hl 2 rfl) ?_
    refine va_get (D := (dC, dI)) (ci := 1) (v := .ref q1) (C := "FlashStore") (T := TF) (N := 6) hx hb hts inTF hown hK hP 0 rfl rfl 0 (by decide) w0 (fun _ h9 => h9) rfl d_F_isBetterToClean_36 ?_
    refine lv_iload_n hx hb d_F_isBetterToClean_39 rfl (lv_at hl 3 rfl) ?_
    obtain ⟨r40, hc40, hF⟩ := tx_b hF
    refine vp_callSi (W.runV (As := [.int a1]) (rest := []) ⟨hx, hb, hml, hown, hts⟩ (c_M_erasuresOf l dC dI cA q1 q5 q6 wd er a1 r40 hc40) (cwV 1 hts (tg_V bq_2_53 bq_2_54 bq_2_55 bq_1_2 bq_2_56) rfl rfl rfl (by decide +kernel) ⟨Nat.le_of_ble_eq_true rfl, Nat.le_of_ble_eq_true rfl⟩) ⟨tx_blR, (va_recv (ci := 0) (q0 := 1) hK hP rfl rfl), tx_preR (hP.sub (ws' := (wM cA q1 q5 q6 wd er)) [1, 5, 6] rfl) hK⟩ rfl rfl hl.1 rfl (lv_room (Nat.le_of_ble_eq_true rfl)) d_F_isBetterToClean_40 ⟨Nat.zero_le _, Nat.zero_le _⟩) (fun zz hz => ?_)
    subst hz
    refine lv_aload_n hx hb d_F_isBetterToClean_43 rfl (lv_at hl 2 rfl) ?_
    refine va_get (D := (dC, dI)) (ci := 1) (v := .ref q1) (C := "FlashStore") (T := TF) (N := 6) hx hb hts inTF hown hK hP 0 rfl rfl 0 (by decide) w0 (fun _ h9 => h9) rfl d_F_isBetterToClean_44 ?_
    refine lv_iload_n hx hb d_F_isBetterToClean_47 rfl (lv_at hl 4 rfl) ?_
    obtain ⟨r48, hc48, hF⟩ := tx_b hF
    refine vp_callSi (W.runV (As := [.int a2]) (rest := [.int r40]) ⟨hx, hb, hml, hown, hts⟩ (c_M_erasuresOf l dC dI cA q1 q5 q6 wd er a2 r48 hc48) (cwV 1 hts (tg_V bq_2_53 bq_2_54 bq_2_55 bq_1_2 bq_2_56) rfl rfl rfl (by decide +kernel) ⟨Nat.le_of_ble_eq_true rfl, Nat.le_of_ble_eq_true rfl⟩) ⟨tx_blR, (va_recv (ci := 0) (q0 := 1) hK hP rfl rfl), tx_preR (hP.sub (ws' := (wM cA q1 q5 q6 wd er)) [1, 5, 6] rfl) hK⟩ rfl rfl hl.1 rfl (lv_room (Nat.le_of_ble_eq_true rfl)) d_F_isBetterToClean_48 ⟨Nat.zero_le _, Nat.zero_le _⟩) (fun zz hz => ?_)
    subst hz
    refine lv_icmp_ge hx hb d_F_isBetterToClean_51 (tgt := 58) (by decide) (fun h51 => ?_) (fun h51 => ?_)
    · have hF := tx_t h51 hF
      refine lv_iconst (v := (0 : Int32)) hx hb d_F_isBetterToClean_58 (by decide) ?_
      exact J59 _ (0 : Int32) (lv_sub hl [] rfl) hF
    · have hF := tx_f h51 hF
      refine lv_iconst (v := (1 : Int32)) hx hb d_F_isBetterToClean_54 (by decide) ?_
      refine lv_goto hx hb d_F_isBetterToClean_55 (tgt := 59) (by decide) ?_
      exact J59 _ (1 : Int32) (lv_sub hl [] rfl) hF
  · have hF := tx_f h18 hF
    refine lv_iload_n hx hb d_F_isBetterToClean_21 rfl (lv_at hl 1 rfl) ?_
    refine lv_iload hx hb d_F_isBetterToClean_22 (lv_at hl 0 rfl) ?_
    refine lv_icmp_ge hx hb d_F_isBetterToClean_24 (tgt := 31) (by decide) (fun h24 => ?_) (fun h24 => ?_)
    · have hF := tx_t h24 hF
      refine lv_iconst (v := (0 : Int32)) hx hb d_F_isBetterToClean_31 (by decide) ?_
      refine lv_goto hx hb d_F_isBetterToClean_32 (tgt := 59) (by decide) ?_
      exact J59 _ (0 : Int32) (lv_sub hl [] rfl) hF
    · have hF := tx_f h24 hF
      refine lv_iconst (v := (1 : Int32)) hx hb d_F_isBetterToClean_27 (by decide) ?_
      refine lv_goto hx hb d_F_isBetterToClean_28 (tgt := 59) (by decide) ?_
      exact J59 _ (1 : Int32) (lv_sub hl [] rfl) hF
abbrev rm_F_blockToClean : Room := { frames := 4, cells := 0, slots := 0, locals := 90 }
set_option maxHeartbeats 4000000 in
set_option maxRecDepth 100000 in
theorem c_F_blockToClean (l : Launch) (dC : Nat → ClassId) (dI : Nat → Nat → Nat) (cA : ClassId) (h0 q1 q2 q3 q4 q5 q6 : Nat) (st pl tk wd er : Nat → Int32) (nx md : Int32)  (r : Int32)  (hF : f_F_blockToClean st er = some r) : Met l y_F_blockToClean ws_F_blockToClean rm_F_blockToClean (tx_PR [.ref h0] (dC, dI) [(cA, .int)] (wF cA h0 q1 q2 q3 q4 q5 q6 st pl tk wd er nx md)) (vp_Si (fun z => r = z)) 0 0 (fun _ => False) := by
  refine Met.ofW (cc := b_F_blockToClean) (maxL := 3) (ret := some .int) (by decide +kernel) rfl ?_
  intro p e s m args below meth c s₁ B hml hv
  obtain ⟨hargs, hP, hK⟩ := hv
  have hx := B.exec
  have hb := B.bytes
  have hr := B.returns
  have hts := atoms_spec (ws := ws_F_blockToClean) B.pre
  have hown : s.vm.findClass "FlashStore" = some m.cls := findClass_of_methodNamed B.named
  have hlocks := B.notSynchronized
  have hl := lv_entry ([.ref h0]) (n := 3) (Nat.le_of_ble_eq_true rfl)
  have hen : entryFrame m args 3 = _ := (congrArg (fun z => entryFrame m z 3) hargs).trans (lg_entry_eq m ([.ref h0]) 3)
  refine W.eq hen ?_
  clear hen
  generalize (lg_sl ([.ref h0]) ++ List.replicate (3 - (lg_sl ([.ref h0])).length) Slot.unset).toArray = ls at hl ⊢
  have hl : lv_has ls 3 [(0, .ref h0)] := hl
  have J33 : ∀ (rc : (Nat → Int32) → (Nat → Int32) → Int32 → Int32 → Option (Int32)) (hrec0 : ∀ (ls : Array Slot) (v1 : Int32) (v2 : Int32), lv_has ls 3 [(0, .ref h0), (1, .int v1), (2, .int v2)] → rc st er v1 v2 = some r → W p l e (headSpec ws_F_blockToClean rm_F_blockToClean).room s m args below meth c s.heap [] 0 0 (MQ below (vp_Si (fun z => r = z)) args s 0 0 (fun _ => False)) (F0 m 4 ls [])), ∀ (ls : Array Slot) (v1 : Int32) (v2 : Int32), lv_has ls 3 [(0, .ref h0), (1, .int v1), (2, .int v2)] → f_F_blockToClean_J33 rc st er v1 v2 = some r → W p l e (headSpec ws_F_blockToClean rm_F_blockToClean).room s m args below meth c s.heap [] 0 0 (MQ below (vp_Si (fun z => r = z)) args s 0 0 (fun _ => False)) (F0 m 33 ls []) := by
    intro rc hrec0
    intro ls v1 v2 hl hF
    have hF : (rc st er v1 (v2 + (1 : Int32))) = some r := hF
    refine lv_iinc (k := 2) (v := (v2 + (1 : Int32))) hx hb d_F_blockToClean_33 hl rfl rfl (by decide) rfl (fun ls hl => ?_)
    have hl : lv_has ls 3 [(2, .int (v2 + (1 : Int32))), (0, .ref h0), (1, .int v1)] := hl
    refine lv_goto hx hb d_F_blockToClean_36 (tgt := 4) (by decide) ?_
    exact hrec0 _ v1 (v2 + (1 : Int32)) (lv_sub hl [1, 2, 0] rfl) hF
  have J31 : ∀ (rc : (Nat → Int32) → (Nat → Int32) → Int32 → Int32 → Option (Int32)) (hrec0 : ∀ (ls : Array Slot) (v1 : Int32) (v2 : Int32), lv_has ls 3 [(0, .ref h0), (1, .int v1), (2, .int v2)] → rc st er v1 v2 = some r → W p l e (headSpec ws_F_blockToClean rm_F_blockToClean).room s m args below meth c s.heap [] 0 0 (MQ below (vp_Si (fun z => r = z)) args s 0 0 (fun _ => False)) (F0 m 4 ls [])), ∀ (ls : Array Slot) (v2 : Int32), lv_has ls 3 [(0, .ref h0), (2, .int v2)] → f_F_blockToClean_J31 rc st er v2 = some r → W p l e (headSpec ws_F_blockToClean rm_F_blockToClean).room s m args below meth c s.heap [] 0 0 (MQ below (vp_Si (fun z => r = z)) args s 0 0 (fun _ => False)) (F0 m 31 ls []) := by
    intro rc hrec0
    intro ls v2 hl hF
    have hF : (f_F_blockToClean_J33 rc st er v2 v2) = some r := hF
    refine lv_iload_n hx hb d_F_blockToClean_31 rfl (lv_at hl 1 rfl) ?_
    refine lv_istore_n hx hb d_F_blockToClean_32 rfl hl (by decide) rfl (fun ls hl => ?_)
    have hl : lv_has ls 3 [(1, .int v2), (0, .ref h0), (2, .int v2)] := hl
    exact J33 _ hrec0 _ v2 v2 (lv_sub hl [1, 0, 2] rfl) hF
  have LH : ∀ n : Nat, (∀ (ls : Array Slot) (v1 : Int32) (v2 : Int32), lv_has ls 3 [(0, .ref h0), (1, .int v1), (2, .int v2)] → f_F_blockToClean_H n st er v1 v2 = some r → W p l e (headSpec ws_F_blockToClean rm_F_blockToClean).room s m args below meth c s.heap [] 0 0 (MQ below (vp_Si (fun z => r = z)) args s 0 0 (fun _ => False)) (F0 m 4 ls [])) := by
    intro n
    induction n with
    | zero =>
      exact (by intro ls v1 v2 hl hF; have hF : (none : Option (Int32)) = _ := hF; cases hF)
    | succ n ih =>
      have hrec0 := ih
      intro ls v1 v2 hl hF
      have hF : (if (4 : Int32) ≤ v2 then (some v1) else ((f_F_canBeCleaned st v2).bind fun r11 => if r11 = 0 then (f_F_blockToClean_J33 (f_F_blockToClean_H n) st er v1 v2) else (if v1 = (-1 : Int32) then (f_F_blockToClean_J31 (f_F_blockToClean_H n) st er v2) else ((f_F_isBetterToClean st er v2 v1).bind fun r25 => if r25 = 0 then (f_F_blockToClean_J33 (f_F_blockToClean_H n) st er v1 v2) else (f_F_blockToClean_J31 (f_F_blockToClean_H n) st er v2))))) = some r := hF
      refine lv_iload_n hx hb d_F_blockToClean_4 rfl (lv_at hl 2 rfl) ?_
      refine lv_iconst (v := (4 : Int32)) hx hb d_F_blockToClean_5 (by decide) ?_
      refine lv_icmp_ge hx hb d_F_blockToClean_6 (tgt := 39) (by decide) (fun h6 => ?_) (fun h6 => ?_)
      · have hF := tx_t h6 hF
        refine lv_iload_n hx hb d_F_blockToClean_39 rfl (lv_at hl 1 rfl) ?_
        exact W.iret hx hb hr (fun t ht hW => ⟨_, rfl, (Option.some.inj hF).symm, ht⟩) (fun q h => by cases h) d_F_blockToClean_40
      · have hF := tx_f h6 hF
        refine lv_aload_n hx hb d_F_blockToClean_9 rfl (lv_at hl 0 rfl) ?_
        refine lv_iload_n hx hb d_F_blockToClean_10 rfl (lv_at hl 2 rfl) ?_
        obtain ⟨r11, hc11, hF⟩ := tx_b hF
        refine vp_callSi (W.runV (As := [.int v2]) (rest := []) ⟨hx, hb, hml, hown, hts⟩ (c_F_canBeCleaned l dC dI cA h0 q1 q2 q3 q4 q5 q6 st pl tk wd er nx md v2 r11 hc11) (cwV 1 hts (tg_V bq_2_41 bq_2_43 bq_s_10 bq_1_1 bq_2_44) rfl rfl rfl (by decide +kernel) ⟨Nat.le_of_ble_eq_true rfl, Nat.le_of_ble_eq_true rfl⟩) ⟨tx_blR, (va_recv (ci := 1) (q0 := 0) hK hP rfl rfl), tx_preR (hP) hK⟩ rfl rfl hl.1 rfl (lv_room (Nat.le_of_ble_eq_true rfl)) d_F_blockToClean_11 ⟨Nat.zero_le _, Nat.zero_le _⟩) (fun zz hz => ?_)
        subst hz
        refine lv_if_eq hx hb d_F_blockToClean_14 (tgt := 33) (by decide) (fun h14 => ?_) (fun h14 => ?_)
        · have hF := tx_t h14 hF
          exact J33 _ hrec0 _ v1 v2 hl hF
        · have hF := tx_f h14 hF
          refine lv_iload_n hx hb d_F_blockToClean_17 rfl (lv_at hl 1 rfl) ?_
          refine lv_iconst (v := (-1 : Int32)) hx hb d_F_blockToClean_18 (by decide) ?_
          refine lv_icmp_eq hx hb d_F_blockToClean_19 (tgt := 31) (by decide) (fun h19 => ?_) (fun h19 => ?_)
          · have hF := tx_t h19 hF
            exact J31 _ hrec0 _ v2 (lv_sub hl [0, 2] rfl) hF
          · have hF := tx_f h19 hF
            refine lv_aload_n hx hb d_F_blockToClean_22 rfl (lv_at hl 0 rfl) ?_
            refine lv_iload_n hx hb d_F_blockToClean_23 rfl (lv_at hl 2 rfl) ?_
            refine lv_iload_n hx hb d_F_blockToClean_24 rfl (lv_at hl 1 rfl) ?_
            obtain ⟨r25, hc25, hF⟩ := tx_b hF
            refine vp_callSi (W.runV (As := [.int v2, .int v1]) (rest := []) ⟨hx, hb, hml, hown, hts⟩ (c_F_isBetterToClean l dC dI cA h0 q1 q2 q3 q4 q5 q6 st pl tk wd er nx md v2 v1 r25 hc25) (cwV 2 hts (tg_V bq_2_49 bq_2_51 bq_s_12 bq_1_1 bq_2_52) rfl rfl rfl (by decide +kernel) ⟨Nat.le_of_ble_eq_true rfl, Nat.le_of_ble_eq_true rfl⟩) ⟨tx_blR, (va_recv (ci := 1) (q0 := 0) hK hP rfl rfl), tx_preR (hP) hK⟩ rfl rfl hl.1 rfl (lv_room (Nat.le_of_ble_eq_true rfl)) d_F_blockToClean_25 ⟨Nat.zero_le _, Nat.zero_le _⟩) (fun zz hz => ?_)
            subst hz
            refine lv_if_eq hx hb d_F_blockToClean_28 (tgt := 33) (by decide) (fun h28 => ?_) (fun h28 => ?_)
            · have hF := tx_t h28 hF
              exact J33 _ hrec0 _ v1 v2 hl hF
            · have hF := tx_f h28 hF
              exact J31 _ hrec0 _ v2 (lv_sub hl [0, 2] rfl) hF
  obtain hrec0 := LH 100
  have hF : (f_F_blockToClean_H 100 st er (-1 : Int32) (0 : Int32)) = some r := hF
  refine lv_iconst (v := (-1 : Int32)) hx hb d_F_blockToClean_0 (by decide) ?_
  refine lv_istore_n hx hb d_F_blockToClean_1 rfl hl (by decide) rfl (fun ls hl => ?_)
  have hl : lv_has ls 3 [(1, .int (-1 : Int32)), (0, .ref h0)] := hl
  refine lv_iconst (v := (0 : Int32)) hx hb d_F_blockToClean_2 (by decide) ?_
  refine lv_istore_n hx hb d_F_blockToClean_3 rfl hl (by decide) rfl (fun ls hl => ?_)
  have hl : lv_has ls 3 [(2, .int (0 : Int32)), (1, .int (-1 : Int32)), (0, .ref h0)] := hl
  exact hrec0 _ (-1 : Int32) (0 : Int32) (lv_sub hl [2, 1, 0] rfl) hF
abbrev rm_F_moveAway : Room := { frames := 5, cells := 0, slots := 0, locals := 115 }
set_option maxHeartbeats 4000000 in
set_option maxRecDepth 100000 in
theorem c_F_moveAway (l : Launch) (dC : Nat → ClassId) (dI : Nat → Nat → Nat) (cA : ClassId) (h0 q1 q2 q3 q4 q5 q6 sz : Nat) (st pl tk wd er : Nat → Int32) (nx md : Int32) (a1 : Int32) (st' : Nat → Int32) (pl' : Nat → Int32) (wd' : Nat → Int32) (nx' : Int32) (hF : f_F_moveAway st pl wd nx a1 = some (st', pl', wd', nx')) : Met l y_F_moveAway ws_F_moveAway rm_F_moveAway (tx_PW [.ref h0, .int a1] (dC, dI) [(cA, .int)] (wF cA h0 q1 q2 q3 q4 q5 q6 st pl tk wd er nx md) sz) (va_Qv (S := Unit) (fun _ => True) (fun _ t => va_P (dC, dI) vwCl (wF cA h0 q1 q2 q3 q4 q5 q6 (st') (pl') tk (wd') er (nx') md) t.heap ∧ va_D (va_A (wF cA h0 q1 q2 q3 q4 q5 q6 st pl tk wd er nx md) sz) (wF cA h0 q1 q2 q3 q4 q5 q6 (st') (pl') tk (wd') er (nx') md)) (va_A (wF cA h0 q1 q2 q3 q4 q5 q6 st pl tk wd er nx md) sz)) 0 0 (va_A (wF cA h0 q1 q2 q3 q4 q5 q6 st pl tk wd er nx md) sz) := by
  refine Met.ofW (cc := b_F_moveAway) (maxL := 3) (ret := none) (by decide +kernel) rfl ?_
  intro p e s m args below meth c s₁ B hml hv
  obtain ⟨hargs, hsz, hP, hK, hD0, hNw⟩ := hv
  have hx := B.exec
  have hb := B.bytes
  have hr := B.returns
  have hts := atoms_spec (ws := ws_F_moveAway) B.pre
  have hown : s.vm.findClass "FlashStore" = some m.cls := findClass_of_methodNamed B.named
  have hlocks := B.notSynchronized
  subst hsz
  have hD := hD0.self (sz := s.heap.size)
  generalize hAe : va_A (wF cA h0 q1 q2 q3 q4 q5 q6 st pl tk wd er nx md) s.heap.size = A at hD ⊢
  have hA : ∀ q : Nat, s.heap.size ≤ q → A q := fun q h => by rw [← hAe]; exact Or.inr h
  have hS : va_S A s.heap s.heap [] := va_S.rf
  have hP : va_P (dC, dI) vwCl (wF cA h0 q1 q2 q3 q4 q5 q6 st pl tk wd er nx md) s.heap := hP
  have w0 := (hts _ (List.mem_cons_of_mem _ bq_1_41))
  have hl := lv_entry ([.ref h0, .int a1]) (n := 3) (Nat.le_of_ble_eq_true rfl)
  have hen : entryFrame m args 3 = _ := (congrArg (fun z => entryFrame m z 3) hargs).trans (lg_entry_eq m ([.ref h0, .int a1]) 3)
  refine W.eq hen ?_
  clear hen
  generalize (lg_sl ([.ref h0, .int a1]) ++ List.replicate (3 - (lg_sl ([.ref h0, .int a1])).length) Slot.unset).toArray = ls at hl ⊢
  have hl : lv_has ls 3 [(0, .ref h0), (1, .int a1)] := hl
  have J48 : ∀ (H : Heap) (locs : List Loc) (ls : Array Slot) (st : Nat → Int32) (pl : Nat → Int32) (wd : Nat → Int32) (nx : Int32), va_P (dC, dI) vwCl (wF cA h0 q1 q2 q3 q4 q5 q6 st pl tk wd er nx md) H → va_D A (wF cA h0 q1 q2 q3 q4 q5 q6 st pl tk wd er nx md) → va_S A s.heap H locs → lv_has ls 3 [] → f_F_moveAway_J48 st pl wd nx = some (st', pl', wd', nx') → W p l e (headSpec ws_F_moveAway rm_F_moveAway).room s m args below meth c H locs 0 0 (MQ below (va_Qv (S := Unit) (fun _ => True) (fun _ t => va_P (dC, dI) vwCl (wF cA h0 q1 q2 q3 q4 q5 q6 (st') (pl') tk (wd') er (nx') md) t.heap ∧ va_D A (wF cA h0 q1 q2 q3 q4 q5 q6 (st') (pl') tk (wd') er (nx') md)) A) args s 0 0 A) (F0 m 48 ls []) := by
    intro H locs ls st pl wd nx hP hD hS hl hF
    have hF : (some (st, pl, wd, nx)) = some (st', pl', wd', nx') := hF
    cases hF
    exact W.vret hx hb hr (fun t ht hW => ⟨⟨(), rfl, trivial, by rw [ht]; exact hP, hD⟩, hS.F ht⟩) hS.2.2 d_F_moveAway_48
  have hF : ((f_F_logicalPageAt pl a1).bind fun r2 => if r2 = (-1 : Int32) then (some (st, pl, wd, nx)) else ((f_M_isReadable wd a1).bind fun r17 => if r17 = 0 then ((f_F_forget st pl r2).bind fun (st45, pl45) => f_F_moveAway_J48 st45 pl45 wd nx) else ((f_M_contentAt wd a1).bind fun r30 => (f_F_blockOf a1).bind fun r34 => (f_F_put st pl wd nx r2 r30 r34).bind fun (st37, pl37, wd37, nx37) => f_F_moveAway_J48 st37 pl37 wd37 nx37))) = some (st', pl', wd', nx') := hF
  refine lv_aload_n hx hb d_F_moveAway_0 rfl (lv_at hl 0 rfl) ?_
  refine lv_iload_n hx hb d_F_moveAway_1 rfl (lv_at hl 1 rfl) ?_
  obtain ⟨r2, hc2, hF⟩ := tx_b hF
  refine vp_callSi (W.runV (As := [.int a1]) (rest := []) ⟨hx, hb, hml, hown, hts⟩ (c_F_logicalPageAt l dC dI cA h0 q1 q2 q3 q4 q5 q6 st pl tk wd er nx md a1 r2 hc2) (cwV 1 hts (tg_V bq_2_81 bq_2_83 bq_s_15 bq_1_1 bq_2_84) rfl rfl rfl (by decide +kernel) ⟨Nat.le_of_ble_eq_true rfl, Nat.le_of_ble_eq_true rfl⟩) ⟨tx_blR, (va_recv (ci := 1) (q0 := 0) hK hP rfl rfl), tx_preR (hP) hK⟩ rfl rfl hl.1 rfl (lv_room (Nat.le_of_ble_eq_true rfl)) d_F_moveAway_2 ⟨Nat.zero_le _, Nat.zero_le _⟩) (fun zz hz => ?_)
  subst hz
  refine lv_istore_n hx hb d_F_moveAway_5 rfl hl (by decide) rfl (fun ls hl => ?_)
  have hl : lv_has ls 3 [(2, .int r2), (0, .ref h0), (1, .int a1)] := hl
  refine lv_iload_n hx hb d_F_moveAway_6 rfl (lv_at hl 0 rfl) ?_
  refine lv_iconst (v := (-1 : Int32)) hx hb d_F_moveAway_7 (by decide) ?_
  refine lv_icmp_ne hx hb d_F_moveAway_8 (tgt := 12) (by decide) (fun h8 => ?_) (fun h8 => ?_)
  · have hF := tx_f h8 hF
    refine lv_aload_n hx hb d_F_moveAway_12 rfl (lv_at hl 1 rfl) ?_
    refine va_get (D := (dC, dI)) (ci := 1) (v := .ref q1) (C := "FlashStore") (T := TF) (N := 6) hx hb hts inTF hown hK hP 0 rfl rfl 0 (by decide) w0 (fun _ h9 => h9) rfl d_F_moveAway_13 ?_
    refine lv_iload_n hx hb d_F_moveAway_16 rfl (lv_at hl 2 rfl) ?_
    obtain ⟨r17, hc17, hF⟩ := tx_b hF
    refine vp_callSi (W.runV (As := [.int a1]) (rest := []) ⟨hx, hb, hml, hown, hts⟩ (c_M_isReadable l dC dI cA q1 q5 q6 wd er a1 r17 hc17) (cwV 1 hts (tg_V bq_2_85 bq_2_86 bq_2_87 bq_1_2 bq_2_88) rfl rfl rfl (by decide +kernel) ⟨Nat.le_of_ble_eq_true rfl, Nat.le_of_ble_eq_true rfl⟩) ⟨tx_blR, (va_recv (ci := 0) (q0 := 1) hK hP rfl rfl), tx_preR (hP.sub (ws' := (wM cA q1 q5 q6 wd er)) [1, 5, 6] rfl) hK⟩ rfl rfl hl.1 rfl (lv_room (Nat.le_of_ble_eq_true rfl)) d_F_moveAway_17 ⟨Nat.zero_le _, Nat.zero_le _⟩) (fun zz hz => ?_)
    subst hz
    refine lv_if_eq hx hb d_F_moveAway_20 (tgt := 43) (by decide) (fun h20 => ?_) (fun h20 => ?_)
    · have hF := tx_t h20 hF
      refine lv_aload_n hx hb d_F_moveAway_43 rfl (lv_at hl 1 rfl) ?_
      refine lv_iload_n hx hb d_F_moveAway_44 rfl (lv_at hl 0 rfl) ?_
      obtain ⟨⟨st45, pl45⟩, hc45, hF⟩ := tx_b hF
      try dsimp only at hF
      have hPc := hP.sub (ws' := (wF cA h0 q1 q2 q3 q4 q5 q6 st pl tk wd er nx md)) [0, 1, 2, 3, 4, 5, 6] rfl
      have hDc := hD.sub (ws' := (wF cA h0 q1 q2 q3 q4 q5 q6 st pl tk wd er nx md)) [0, 1, 2, 3, 4, 5, 6] (by decide) rfl
      have hFc := va_free (wc := (wF cA h0 q1 q2 q3 q4 q5 q6 st pl tk wd er nx md)) hD hS hA [0, 1, 2, 3, 4, 5, 6] rfl
      refine va_callv (va_runV (As := [.int r2]) (rest := []) ⟨hx, hb, hml, hown, hts⟩ (c_F_forget l dC dI cA h0 q1 q2 q3 q4 q5 q6 s.heap.size st pl tk wd er nx md r2 st45 pl45 hc45) (cwV 1 hts (tg_V bq_1_117 bq_1_119 bq_s_1 bq_1_1 bq_1_120) rfl rfl rfl (by decide +kernel) ⟨Nat.le_of_ble_eq_true rfl, Nat.le_of_ble_eq_true rfl⟩) ⟨tx_blW, (va_recv (ci := 1) (q0 := 0) hK hP rfl rfl), tx_preW hPc hDc hK hNw⟩ rfl rfl hl.1 rfl (lv_room (Nat.le_of_ble_eq_true rfl)) d_F_moveAway_45 ⟨Nat.zero_le _, Nat.zero_le _⟩) hS (fun q _ h => hFc q h) hFc (fun _u t H locs ht hvm hw hB hz1 hk1 hS => ?_)
      obtain ⟨hP1, hD1⟩ := hB
      rw [ht] at hP1
      obtain ⟨hP2, hD2⟩ := va_join (wr := []) (w1 := (wF cA h0 q1 q2 q3 q4 q5 q6 st45 pl45 tk wd er nx md)) hP hD [0, 1, 2, 3, 4, 5, 6] [] rfl rfl (by decide) (by decide) hk1 hFc hP1 hD1
      have hP := hP2.sub (ws' := (wF cA h0 q1 q2 q3 q4 q5 q6 st45 pl45 tk wd er nx md)) [0, 1, 2, 3, 4, 5, 6] rfl
      have hD := hD2.sub (ws' := (wF cA h0 q1 q2 q3 q4 q5 q6 st45 pl45 tk wd er nx md)) [0, 1, 2, 3, 4, 5, 6] (by decide) rfl
      exact J48 _ _ _ st45 pl45 wd nx hP hD hS (lv_sub hl [] rfl) hF
    · have hF := tx_f h20 hF
      refine lv_aload_n hx hb d_F_moveAway_23 rfl (lv_at hl 1 rfl) ?_
      refine lv_iload_n hx hb d_F_moveAway_24 rfl (lv_at hl 0 rfl) ?_
      refine lv_aload_n hx hb d_F_moveAway_25 rfl (lv_at hl 1 rfl) ?_
      refine va_get (D := (dC, dI)) (ci := 1) (v := .ref q1) (C := "FlashStore") (T := TF) (N := 6) hx hb hts inTF hown hK hP 0 rfl rfl 0 (by decide) w0 (fun _ h9 => h9) rfl d_F_moveAway_26 ?_
      refine lv_iload_n hx hb d_F_moveAway_29 rfl (lv_at hl 2 rfl) ?_
      obtain ⟨r30, hc30, hF⟩ := tx_b hF
      refine vp_callSl (W.runV (As := [.int a1]) (rest := [.int r2, .ref h0]) ⟨hx, hb, hml, hown, hts⟩ (c_M_contentAt l dC dI cA q1 q5 q6 wd er a1 r30 hc30) (cwV 1 hts (tg_V bq_2_89 bq_2_90 bq_2_91 bq_1_2 bq_2_92) rfl rfl rfl (by decide +kernel) ⟨Nat.le_of_ble_eq_true rfl, Nat.le_of_ble_eq_true rfl⟩) ⟨tx_blR, (va_recv (ci := 0) (q0 := 1) hK hP rfl rfl), tx_preR (hP.sub (ws' := (wM cA q1 q5 q6 wd er)) [1, 5, 6] rfl) hK⟩ rfl rfl hl.1 rfl (lv_room (Nat.le_of_ble_eq_true rfl)) d_F_moveAway_30 ⟨Nat.zero_le _, Nat.zero_le _⟩) (fun zz hz => ?_)
      subst hz
      refine lv_iload_n hx hb d_F_moveAway_33 rfl (lv_at hl 2 rfl) ?_
      obtain ⟨r34, hc34, hF⟩ := tx_b hF
      refine vp_callSi (W.runS (As := [.int a1]) (rest := [.long r30, .int r2, .ref h0]) ⟨hx, hb, hml, hown, hts⟩ (c_F_blockOf l a1 r34 hc34) (va_cwS 1 hts (tg_S bq_2_23 bq_2_24 bq_1_1 bq_2_25) rfl rfl rfl (by decide +kernel) ⟨Nat.le_of_ble_eq_true rfl, Nat.le_of_ble_eq_true rfl⟩) ⟨tx_bl0, tx_pre0⟩ rfl rfl hl.1 rfl (lv_room (Nat.le_of_ble_eq_true rfl)) d_F_moveAway_34 ⟨Nat.zero_le _, Nat.zero_le _⟩) (fun zz hz => ?_)
      subst hz
      obtain ⟨⟨st37, pl37, wd37, nx37⟩, hc37, hF⟩ := tx_b hF
      try dsimp only at hF
      have hPc := hP.sub (ws' := (wF cA h0 q1 q2 q3 q4 q5 q6 st pl tk wd er nx md)) [0, 1, 2, 3, 4, 5, 6] rfl
      have hDc := hD.sub (ws' := (wF cA h0 q1 q2 q3 q4 q5 q6 st pl tk wd er nx md)) [0, 1, 2, 3, 4, 5, 6] (by decide) rfl
      have hFc := va_free (wc := (wF cA h0 q1 q2 q3 q4 q5 q6 st pl tk wd er nx md)) hD hS hA [0, 1, 2, 3, 4, 5, 6] rfl
      refine va_callv (va_runV (As := [.int r2, .long r30, .int r34]) (rest := []) ⟨hx, hb, hml, hown, hts⟩ (c_F_put l dC dI cA h0 q1 q2 q3 q4 q5 q6 s.heap.size st pl tk wd er nx md r2 r30 r34 st37 pl37 wd37 nx37 hc37) (cwV 3 hts (tg_V bq_2_93 bq_2_95 bq_s_16 bq_1_1 bq_2_96) rfl rfl rfl (by decide +kernel) ⟨Nat.le_of_ble_eq_true rfl, Nat.le_of_ble_eq_true rfl⟩) ⟨tx_blW, (va_recv (ci := 1) (q0 := 0) hK hP rfl rfl), tx_preW hPc hDc hK hNw⟩ rfl rfl hl.1 rfl (lv_room (Nat.le_of_ble_eq_true rfl)) d_F_moveAway_37 ⟨Nat.zero_le _, Nat.zero_le _⟩) hS (fun q _ h => hFc q h) hFc (fun _u t H locs ht hvm hw hB hz1 hk1 hS => ?_)
      obtain ⟨hP1, hD1⟩ := hB
      rw [ht] at hP1
      obtain ⟨hP2, hD2⟩ := va_join (wr := []) (w1 := (wF cA h0 q1 q2 q3 q4 q5 q6 st37 pl37 tk wd37 er nx37 md)) hP hD [0, 1, 2, 3, 4, 5, 6] [] rfl rfl (by decide) (by decide) hk1 hFc hP1 hD1
      have hP := hP2.sub (ws' := (wF cA h0 q1 q2 q3 q4 q5 q6 st37 pl37 tk wd37 er nx37 md)) [0, 1, 2, 3, 4, 5, 6] rfl
      have hD := hD2.sub (ws' := (wF cA h0 q1 q2 q3 q4 q5 q6 st37 pl37 tk wd37 er nx37 md)) [0, 1, 2, 3, 4, 5, 6] (by decide) rfl
      refine lv_goto hx hb d_F_moveAway_40 (tgt := 48) (by decide) ?_
      exact J48 _ _ _ st37 pl37 wd37 nx37 hP hD hS (lv_sub hl [] rfl) hF
  · have hF := tx_t h8 hF
    cases hF
    exact W.vret hx hb hr (fun t ht hW => ⟨⟨(), rfl, trivial, by rw [ht]; exact hP, hD⟩, hS.F ht⟩) hS.2.2 d_F_moveAway_11
abbrev rm_F_cleanBlock : Room := { frames := 6, cells := 0, slots := 0, locals := 137 }
set_option maxHeartbeats 4000000 in
set_option maxRecDepth 100000 in
theorem c_F_cleanBlock (l : Launch) (dC : Nat → ClassId) (dI : Nat → Nat → Nat) (cA : ClassId) (h0 q1 q2 q3 q4 q5 q6 sz : Nat) (st pl tk wd er : Nat → Int32) (nx md : Int32) (a1 : Int32) (st' : Nat → Int32) (pl' : Nat → Int32) (wd' : Nat → Int32) (er' : Nat → Int32) (nx' : Int32) (hF : f_F_cleanBlock st pl wd er nx a1 = some (st', pl', wd', er', nx')) : Met l y_F_cleanBlock ws_F_cleanBlock rm_F_cleanBlock (tx_PW [.ref h0, .int a1] (dC, dI) [(cA, .int)] (wF cA h0 q1 q2 q3 q4 q5 q6 st pl tk wd er nx md) sz) (va_Qv (S := Unit) (fun _ => True) (fun _ t => va_P (dC, dI) vwCl (wF cA h0 q1 q2 q3 q4 q5 q6 (st') (pl') tk (wd') (er') (nx') md) t.heap ∧ va_D (va_A (wF cA h0 q1 q2 q3 q4 q5 q6 st pl tk wd er nx md) sz) (wF cA h0 q1 q2 q3 q4 q5 q6 (st') (pl') tk (wd') (er') (nx') md)) (va_A (wF cA h0 q1 q2 q3 q4 q5 q6 st pl tk wd er nx md) sz)) 0 0 (va_A (wF cA h0 q1 q2 q3 q4 q5 q6 st pl tk wd er nx md) sz) := by
  refine Met.ofW (cc := b_F_cleanBlock) (maxL := 3) (ret := none) (by decide +kernel) rfl ?_
  intro p e s m args below meth c s₁ B hml hv
  obtain ⟨hargs, hsz, hP, hK, hD0, hNw⟩ := hv
  have hx := B.exec
  have hb := B.bytes
  have hr := B.returns
  have hts := atoms_spec (ws := ws_F_cleanBlock) B.pre
  have hown : s.vm.findClass "FlashStore" = some m.cls := findClass_of_methodNamed B.named
  have hlocks := B.notSynchronized
  subst hsz
  have hD := hD0.self (sz := s.heap.size)
  generalize hAe : va_A (wF cA h0 q1 q2 q3 q4 q5 q6 st pl tk wd er nx md) s.heap.size = A at hD ⊢
  have hA : ∀ q : Nat, s.heap.size ≤ q → A q := fun q h => by rw [← hAe]; exact Or.inr h
  have hS : va_S A s.heap s.heap [] := va_S.rf
  have hP : va_P (dC, dI) vwCl (wF cA h0 q1 q2 q3 q4 q5 q6 st pl tk wd er nx md) s.heap := hP
  have w0 := (hts _ (List.mem_cons_of_mem _ bq_1_41))
  have w1 := (hts _ (List.mem_cons_of_mem _ bq_1_42))
  have hl := lv_entry ([.ref h0, .int a1]) (n := 3) (Nat.le_of_ble_eq_true rfl)
  have hen : entryFrame m args 3 = _ := (congrArg (fun z => entryFrame m z 3) hargs).trans (lg_entry_eq m ([.ref h0, .int a1]) 3)
  refine W.eq hen ?_
  clear hen
  generalize (lg_sl ([.ref h0, .int a1]) ++ List.replicate (3 - (lg_sl ([.ref h0, .int a1])).length) Slot.unset).toArray = ls at hl ⊢
  have hl : lv_has ls 3 [(0, .ref h0), (1, .int a1)] := hl
  have LH : ∀ n : Nat, (∀ (H : Heap) (locs : List Loc) (ls : Array Slot) (st : Nat → Int32) (pl : Nat → Int32) (wd : Nat → Int32) (er : Nat → Int32) (nx : Int32) (v1 : Int32) (v2 : Int32), va_P (dC, dI) vwCl (wF cA h0 q1 q2 q3 q4 q5 q6 st pl tk wd er nx md) H → va_D A (wF cA h0 q1 q2 q3 q4 q5 q6 st pl tk wd er nx md) → va_S A s.heap H locs → lv_has ls 3 [(0, .ref h0), (1, .int v1), (2, .int v2)] → f_F_cleanBlock_H n st pl wd er nx 0 v1 v2 = some (st', pl', wd', er', nx') → W p l e (headSpec ws_F_cleanBlock rm_F_cleanBlock).room s m args below meth c H locs 0 0 (MQ below (va_Qv (S := Unit) (fun _ => True) (fun _ t => va_P (dC, dI) vwCl (wF cA h0 q1 q2 q3 q4 q5 q6 (st') (pl') tk (wd') (er') (nx') md) t.heap ∧ va_D A (wF cA h0 q1 q2 q3 q4 q5 q6 (st') (pl') tk (wd') (er') (nx') md)) A) args s 0 0 A) (F0 m 2 ls [])) ∧ (∀ (H : Heap) (locs : List Loc) (ls : Array Slot) (st : Nat → Int32) (pl : Nat → Int32) (wd : Nat → Int32) (er : Nat → Int32) (nx : Int32) (v1 : Int32) (v2 : Int32), va_P (dC, dI) vwCl (wF cA h0 q1 q2 q3 q4 q5 q6 st pl tk wd er nx md) H → va_D A (wF cA h0 q1 q2 q3 q4 q5 q6 st pl tk wd er nx md) → va_S A s.heap H locs → lv_has ls 3 [(0, .ref h0), (1, .int v1), (2, .int v2)] → f_F_cleanBlock_H n st pl wd er nx 1 v1 v2 = some (st', pl', wd', er', nx') → W p l e (headSpec ws_F_cleanBlock rm_F_cleanBlock).room s m args below meth c H locs 0 0 (MQ below (va_Qv (S := Unit) (fun _ => True) (fun _ t => va_P (dC, dI) vwCl (wF cA h0 q1 q2 q3 q4 q5 q6 (st') (pl') tk (wd') (er') (nx') md) t.heap ∧ va_D A (wF cA h0 q1 q2 q3 q4 q5 q6 (st') (pl') tk (wd') (er') (nx') md)) A) args s 0 0 A) (F0 m 32 ls [])) := by
    intro n
    induction n with
    | zero =>
      exact ⟨(by intro H locs ls st pl wd er nx v1 v2 hP hD hS hl hF; have hF : (none : Option ((Nat → Int32) × (Nat → Int32) × (Nat → Int32) × (Nat → Int32) × Int32)) = _ := hF; cases hF), (by intro H locs ls st pl wd er nx v1 v2 hP hD hS hl hF; have hF : (none : Option ((Nat → Int32) × (Nat → Int32) × (Nat → Int32) × (Nat → Int32) × Int32)) = _ := hF; cases hF)⟩
    | succ n ih =>
      obtain ⟨hrec0, hrec1⟩ := ih
      refine ⟨?_, ?_⟩
      · intro H locs ls st pl wd er nx v1 v2 hP hD hS hl hF
        have hF : (if (4 : Int32) ≤ v2 then ((f_M_erase wd er v1).bind fun (wd27, er27) => f_F_cleanBlock_H n st pl wd27 er27 nx 1 v1 (0 : Int32)) else ((f_F_placeOf v1 v2).bind fun r10 => (f_F_moveAway st pl wd nx r10).bind fun (st13, pl13, wd13, nx13) => f_F_cleanBlock_H n st13 pl13 wd13 er nx13 0 v1 (v2 + (1 : Int32)))) = some (st', pl', wd', er', nx') := hF
        refine lv_iload_n hx hb d_F_cleanBlock_2 rfl (lv_at hl 2 rfl) ?_
        refine lv_iconst (v := (4 : Int32)) hx hb d_F_cleanBlock_3 (by decide) ?_
        refine lv_icmp_ge hx hb d_F_cleanBlock_4 (tgt := 22) (by decide) (fun h4 => ?_) (fun h4 => ?_)
        · have hF := tx_t h4 hF
          refine lv_aload_n hx hb d_F_cleanBlock_22 rfl (lv_at hl 0 rfl) ?_
          refine va_get (D := (dC, dI)) (ci := 1) (v := .ref q1) (C := "FlashStore") (T := TF) (N := 6) hx hb hts inTF hown hK hP 0 rfl rfl 0 (by decide) w0 (fun _ h9 => h9) rfl d_F_cleanBlock_23 ?_
          refine lv_iload_n hx hb d_F_cleanBlock_26 rfl (lv_at hl 1 rfl) ?_
          obtain ⟨⟨wd27, er27⟩, hc27, hF⟩ := tx_b hF
          try dsimp only at hF
          have hPc := hP.sub (ws' := (wM cA q1 q5 q6 wd er)) [1, 5, 6] rfl
          have hDc := hD.sub (ws' := (wM cA q1 q5 q6 wd er)) [1, 5, 6] (by decide) rfl
          have hFc := va_free (wc := (wM cA q1 q5 q6 wd er)) hD hS hA [1, 5, 6] rfl
          refine va_callv (va_runV (As := [.int v1]) (rest := []) ⟨hx, hb, hml, hown, hts⟩ (c_M_erase l dC dI cA q1 q5 q6 H.size wd er v1 wd27 er27 hc27) (cwV 1 hts (tg_V bq_2_103 bq_2_104 bq_2_105 bq_1_2 bq_2_106) rfl rfl rfl (by decide +kernel) ⟨Nat.le_of_ble_eq_true rfl, Nat.le_of_ble_eq_true rfl⟩) ⟨tx_blW, (va_recv (ci := 0) (q0 := 1) hK hP rfl rfl), tx_preW hPc hDc hK hNw⟩ rfl rfl hl.1 rfl (lv_room (Nat.le_of_ble_eq_true rfl)) d_F_cleanBlock_27 ⟨Nat.zero_le _, Nat.zero_le _⟩) hS (fun q _ h => hFc q h) hFc (fun _u t H locs ht hvm hw hB hz1 hk1 hS => ?_)
          obtain ⟨hP1, hD1⟩ := hB
          rw [ht] at hP1
          obtain ⟨hP2, hD2⟩ := va_join (wr := [(h0, .inr (1, [.ref q1, .ref q2, .ref q3, .ref q4, .int nx, .int md])), (q2, .inl (cA, 16, .inl st)), (q3, .inl (cA, 8, .inl pl)), (q4, .inl (cA, 8, .inl tk))]) (w1 := (wM cA q1 q5 q6 wd27 er27)) hP hD [1, 5, 6] [0, 2, 3, 4] rfl rfl (by decide) (by decide) hk1 hFc hP1 hD1
          have hP := hP2.sub (ws' := (wF cA h0 q1 q2 q3 q4 q5 q6 st pl tk wd27 er27 nx md)) [0, 4, 1, 2, 3, 5, 6] rfl
          have hD := hD2.sub (ws' := (wF cA h0 q1 q2 q3 q4 q5 q6 st pl tk wd27 er27 nx md)) [0, 4, 1, 2, 3, 5, 6] (by decide) rfl
          refine lv_iconst (v := (0 : Int32)) hx hb d_F_cleanBlock_30 (by decide) ?_
          refine lv_istore_n hx hb d_F_cleanBlock_31 rfl hl (by decide) rfl (fun ls hl => ?_)
          have hl : lv_has ls 3 [(2, .int (0 : Int32)), (0, .ref h0), (1, .int v1)] := hl
          exact hrec1 _ _ _ st pl wd27 er27 nx v1 (0 : Int32) hP hD hS (lv_sub hl [1, 2, 0] rfl) hF
        · have hF := tx_f h4 hF
          refine lv_aload_n hx hb d_F_cleanBlock_7 rfl (lv_at hl 0 rfl) ?_
          refine lv_iload_n hx hb d_F_cleanBlock_8 rfl (lv_at hl 1 rfl) ?_
          refine lv_iload_n hx hb d_F_cleanBlock_9 rfl (lv_at hl 2 rfl) ?_
          obtain ⟨r10, hc10, hF⟩ := tx_b hF
          refine vp_callSi (W.runS (As := [.int v1, .int v2]) (rest := [.ref h0]) ⟨hx, hb, hml, hown, hts⟩ (c_F_placeOf l v1 v2 r10 hc10) (va_cwS 2 hts (tg_S bq_2_34 bq_2_35 bq_1_1 bq_2_36) rfl rfl rfl (by decide +kernel) ⟨Nat.le_of_ble_eq_true rfl, Nat.le_of_ble_eq_true rfl⟩) ⟨tx_bl0, tx_pre0⟩ rfl rfl hl.1 rfl (lv_room (Nat.le_of_ble_eq_true rfl)) d_F_cleanBlock_10 ⟨Nat.zero_le _, Nat.zero_le _⟩) (fun zz hz => ?_)
          subst hz
          obtain ⟨⟨st13, pl13, wd13, nx13⟩, hc13, hF⟩ := tx_b hF
          try dsimp only at hF
          have hPc := hP.sub (ws' := (wF cA h0 q1 q2 q3 q4 q5 q6 st pl tk wd er nx md)) [0, 1, 2, 3, 4, 5, 6] rfl
          have hDc := hD.sub (ws' := (wF cA h0 q1 q2 q3 q4 q5 q6 st pl tk wd er nx md)) [0, 1, 2, 3, 4, 5, 6] (by decide) rfl
          have hFc := va_free (wc := (wF cA h0 q1 q2 q3 q4 q5 q6 st pl tk wd er nx md)) hD hS hA [0, 1, 2, 3, 4, 5, 6] rfl
          refine va_callv (va_runV (As := [.int r10]) (rest := []) ⟨hx, hb, hml, hown, hts⟩ (c_F_moveAway l dC dI cA h0 q1 q2 q3 q4 q5 q6 H.size st pl tk wd er nx md r10 st13 pl13 wd13 nx13 hc13) (cwV 1 hts (tg_V bq_2_77 bq_2_79 bq_s_14 bq_1_1 bq_2_80) rfl rfl rfl (by decide +kernel) ⟨Nat.le_of_ble_eq_true rfl, Nat.le_of_ble_eq_true rfl⟩) ⟨tx_blW, (va_recv (ci := 1) (q0 := 0) hK hP rfl rfl), tx_preW hPc hDc hK hNw⟩ rfl rfl hl.1 rfl (lv_room (Nat.le_of_ble_eq_true rfl)) d_F_cleanBlock_13 ⟨Nat.zero_le _, Nat.zero_le _⟩) hS (fun q _ h => hFc q h) hFc (fun _u t H locs ht hvm hw hB hz1 hk1 hS => ?_)
          obtain ⟨hP1, hD1⟩ := hB
          rw [ht] at hP1
          obtain ⟨hP2, hD2⟩ := va_join (wr := []) (w1 := (wF cA h0 q1 q2 q3 q4 q5 q6 st13 pl13 tk wd13 er nx13 md)) hP hD [0, 1, 2, 3, 4, 5, 6] [] rfl rfl (by decide) (by decide) hk1 hFc hP1 hD1
          have hP := hP2.sub (ws' := (wF cA h0 q1 q2 q3 q4 q5 q6 st13 pl13 tk wd13 er nx13 md)) [0, 1, 2, 3, 4, 5, 6] rfl
          have hD := hD2.sub (ws' := (wF cA h0 q1 q2 q3 q4 q5 q6 st13 pl13 tk wd13 er nx13 md)) [0, 1, 2, 3, 4, 5, 6] (by decide) rfl
          refine lv_iinc (k := 2) (v := (v2 + (1 : Int32))) hx hb d_F_cleanBlock_16 hl rfl rfl (by decide) rfl (fun ls hl => ?_)
          have hl : lv_has ls 3 [(2, .int (v2 + (1 : Int32))), (0, .ref h0), (1, .int v1)] := hl
          refine lv_goto hx hb d_F_cleanBlock_19 (tgt := 2) (by decide) ?_
          exact hrec0 _ _ _ st13 pl13 wd13 er nx13 v1 (v2 + (1 : Int32)) hP hD hS (lv_sub hl [1, 2, 0] rfl) hF
      · intro H locs ls st pl wd er nx v1 v2 hP hD hS hl hF
        have hF : (if (4 : Int32) ≤ v2 then (some (st, pl, wd, er, nx)) else ((f_F_placeOf v1 v2).bind fun r43 => if r43 < 0 ∨ 16 ≤ r43.toNatClampNeg then none else f_F_cleanBlock_H n (upd st r43.toNatClampNeg (0 : Int32)) pl wd er nx 1 v1 (v2 + (1 : Int32)))) = some (st', pl', wd', er', nx') := hF
        refine lv_iload_n hx hb d_F_cleanBlock_32 rfl (lv_at hl 2 rfl) ?_
        refine lv_iconst (v := (4 : Int32)) hx hb d_F_cleanBlock_33 (by decide) ?_
        refine lv_icmp_ge hx hb d_F_cleanBlock_34 (tgt := 54) (by decide) (fun h34 => ?_) (fun h34 => ?_)
        · have hF := tx_t h34 hF
          cases hF
          exact W.vret hx hb hr (fun t ht hW => ⟨⟨(), rfl, trivial, by rw [ht]; exact hP, hD⟩, hS.F ht⟩) hS.2.2 d_F_cleanBlock_54
        · have hF := tx_f h34 hF
          refine lv_aload_n hx hb d_F_cleanBlock_37 rfl (lv_at hl 0 rfl) ?_
          refine va_get (D := (dC, dI)) (ci := 1) (v := .ref q2) (C := "FlashStore") (T := TF) (N := 6) hx hb hts inTF hown hK hP 0 rfl rfl 1 (by decide) w1 (fun _ h9 => h9) rfl d_F_cleanBlock_38 ?_
          refine lv_iload_n hx hb d_F_cleanBlock_41 rfl (lv_at hl 1 rfl) ?_
          refine lv_iload_n hx hb d_F_cleanBlock_42 rfl (lv_at hl 2 rfl) ?_
          obtain ⟨r43, hc43, hF⟩ := tx_b hF
          refine vp_callSi (W.runS (As := [.int v1, .int v2]) (rest := [.ref q2]) ⟨hx, hb, hml, hown, hts⟩ (c_F_placeOf l v1 v2 r43 hc43) (va_cwS 2 hts (tg_S bq_2_34 bq_2_35 bq_1_1 bq_2_36) rfl rfl rfl (by decide +kernel) ⟨Nat.le_of_ble_eq_true rfl, Nat.le_of_ble_eq_true rfl⟩) ⟨tx_bl0, tx_pre0⟩ rfl rfl hl.1 rfl (lv_room (Nat.le_of_ble_eq_true rfl)) d_F_cleanBlock_43 ⟨Nat.zero_le _, Nat.zero_le _⟩) (fun zz hz => ?_)
          subst hz
          refine lv_iconst (v := (0 : Int32)) hx hb d_F_cleanBlock_46 (by decide) ?_
          obtain ⟨hi47, hF⟩ := tx_g hF
          refine va_iast hx hb hK hP hD hS 2 0 rfl rfl hi47 d_F_cleanBlock_47 (fun H locs hP hD hS => ?_)
          have hP : va_P (dC, dI) vwCl (wF cA h0 q1 q2 q3 q4 q5 q6 (upd st r43.toNatClampNeg (0 : Int32)) pl tk wd er nx md) H := hP
          have hD : va_D A (wF cA h0 q1 q2 q3 q4 q5 q6 (upd st r43.toNatClampNeg (0 : Int32)) pl tk wd er nx md) := hD
          refine lv_iinc (k := 2) (v := (v2 + (1 : Int32))) hx hb d_F_cleanBlock_48 hl rfl rfl (by decide) rfl (fun ls hl => ?_)
          have hl : lv_has ls 3 [(2, .int (v2 + (1 : Int32))), (0, .ref h0), (1, .int v1)] := hl
          refine lv_goto hx hb d_F_cleanBlock_51 (tgt := 32) (by decide) ?_
          exact hrec1 _ _ _ (upd st r43.toNatClampNeg (0 : Int32)) pl wd er nx v1 (v2 + (1 : Int32)) hP hD hS (lv_sub hl [1, 2, 0] rfl) hF
  obtain ⟨hrec0, hrec1⟩ := LH 100
  have hF : (f_F_cleanBlock_H 100 st pl wd er nx 0 a1 (0 : Int32)) = some (st', pl', wd', er', nx') := hF
  refine lv_iconst (v := (0 : Int32)) hx hb d_F_cleanBlock_0 (by decide) ?_
  refine lv_istore_n hx hb d_F_cleanBlock_1 rfl hl (by decide) rfl (fun ls hl => ?_)
  have hl : lv_has ls 3 [(2, .int (0 : Int32)), (0, .ref h0), (1, .int a1)] := hl
  exact hrec0 _ _ _ st pl wd er nx a1 (0 : Int32) hP hD hS (lv_sub hl [1, 2, 0] rfl) hF
abbrev rm_F_encode : Room := { frames := 2, cells := 0, slots := 0, locals := 43 }
set_option maxHeartbeats 4000000 in
set_option maxRecDepth 100000 in
theorem c_F_encode (l : Launch) (dC : Nat → ClassId) (dI : Nat → Nat → Nat) (cA : ClassId) (h0 q1 q2 q3 q4 q5 q6 : Nat) (st pl tk wd er : Nat → Int32) (nx md : Int32) (a1 : Int32) (r : Int32)  (hF : f_F_encode a1 = some r) : Met l y_F_encode ws_F_encode rm_F_encode (tx_PR [.ref h0, .int a1] (dC, dI) [(cA, .int)] (wF cA h0 q1 q2 q3 q4 q5 q6 st pl tk wd er nx md)) (vp_Si (fun z => r = z)) 0 0 (fun _ => False) := by
  refine Met.ofW (cc := b_F_encode) (maxL := 2) (ret := some .int) (by decide +kernel) rfl ?_
  intro p e s m args below meth c s₁ B hml hv
  obtain ⟨hargs, hP, hK⟩ := hv
  have hx := B.exec
  have hb := B.bytes
  have hr := B.returns
  have hts := atoms_spec (ws := ws_F_encode) B.pre
  have hown : s.vm.findClass "FlashStore" = some m.cls := findClass_of_methodNamed B.named
  have hlocks := B.notSynchronized
  have w0 := hts (.constant "FlashStore" 41 (65535 : Int32)) (by decide +kernel)
  have hl := lv_entry ([.ref h0, .int a1]) (n := 2) (Nat.le_of_ble_eq_true rfl)
  have hen : entryFrame m args 2 = _ := (congrArg (fun z => entryFrame m z 2) hargs).trans (lg_entry_eq m ([.ref h0, .int a1]) 2)
  refine W.eq hen ?_
  clear hen
  generalize (lg_sl ([.ref h0, .int a1]) ++ List.replicate (2 - (lg_sl ([.ref h0, .int a1])).length) Slot.unset).toArray = ls at hl ⊢
  have hl : lv_has ls 2 [(0, .ref h0), (1, .int a1)] := hl
  have J10 : ∀ (ls : Array Slot), lv_has ls 2 [] → f_F_encode_J10  = some r → W p l e (headSpec ws_F_encode rm_F_encode).room s m args below meth c s.heap [] 0 0 (MQ below (vp_Si (fun z => r = z)) args s 0 0 (fun _ => False)) (F0 m 10 ls []) := by
    intro ls hl hF
    have hF : (none) = some r := hF
    cases hF
  have hF : (if a1 < 0 then (f_F_encode_J10 ) else (if a1 ≤ (65535 : Int32) then ((f_C_codewordOf a1).bind fun r21 => some r21) else (f_F_encode_J10 ))) = some r := hF
  refine lv_iload_n hx hb d_F_encode_0 rfl (lv_at hl 1 rfl) ?_
  refine lv_if_lt hx hb d_F_encode_1 (tgt := 10) (by decide) (fun h1 => ?_) (fun h1 => ?_)
  · have hF := tx_t h1 hF
    exact J10 _ (lv_sub hl [] rfl) hF
  · have hF := tx_f h1 hF
    refine lv_iload_n hx hb d_F_encode_4 rfl (lv_at hl 1 rfl) ?_
    refine lv_ldc hx hb hown w0 d_F_encode_5 ?_
    refine lv_icmp_le hx hb d_F_encode_7 (tgt := 20) (by decide) (fun h7 => ?_) (fun h7 => ?_)
    · have hF := tx_t h7 hF
      refine lv_iload_n hx hb d_F_encode_20 rfl (lv_at hl 1 rfl) ?_
      obtain ⟨r21, hc21, hF⟩ := tx_b hF
      refine vp_callSi (W.runS (As := [.int a1]) (rest := []) ⟨hx, hb, hml, hown, hts⟩ (c_C_codewordOf l a1 r21 hc21) (va_cwS 1 hts (tg_S bq_1_212 bq_1_213 bq_1_9 bq_1_214) rfl rfl rfl (by decide +kernel) ⟨Nat.le_of_ble_eq_true rfl, Nat.le_of_ble_eq_true rfl⟩) ⟨tx_bl0, tx_pre0⟩ rfl rfl hl.1 rfl (lv_room (Nat.le_of_ble_eq_true rfl)) d_F_encode_21 ⟨Nat.zero_le _, Nat.zero_le _⟩) (fun zz hz => ?_)
      subst hz
      exact W.iret hx hb hr (fun t ht hW => ⟨_, rfl, (Option.some.inj hF).symm, ht⟩) (fun q h => by cases h) d_F_encode_24
    · have hF := tx_f h7 hF
      exact J10 _ (lv_sub hl [] rfl) hF
abbrev rm_F_decode : Room := { frames := 3, cells := 0, slots := 0, locals := 68 }
set_option maxHeartbeats 4000000 in
set_option maxRecDepth 100000 in
theorem c_F_decode (l : Launch) (dC : Nat → ClassId) (dI : Nat → Nat → Nat) (cA : ClassId) (h0 q1 q2 q3 q4 q5 q6 sz : Nat) (st pl tk wd er : Nat → Int32) (nx md : Int32) (a1 : Int32) (r : Int32) (md' : Int32) (hF : f_F_decode md a1 = some (r, md')) : Met l y_F_decode ws_F_decode rm_F_decode (tx_PW [.ref h0, .int a1] (dC, dI) [(cA, .int)] (wF cA h0 q1 q2 q3 q4 q5 q6 st pl tk wd er nx md) sz) (va_Qi (S := Unit) (fun z _ => r = z) (fun _ t => va_P (dC, dI) vwCl (wF cA h0 q1 q2 q3 q4 q5 q6 st pl tk wd er nx (md')) t.heap ∧ va_D (va_A (wF cA h0 q1 q2 q3 q4 q5 q6 st pl tk wd er nx md) sz) (wF cA h0 q1 q2 q3 q4 q5 q6 st pl tk wd er nx (md'))) (va_A (wF cA h0 q1 q2 q3 q4 q5 q6 st pl tk wd er nx md) sz)) 0 0 (va_A (wF cA h0 q1 q2 q3 q4 q5 q6 st pl tk wd er nx md) sz) := by
  refine Met.ofW (cc := b_F_decode) (maxL := 3) (ret := some .int) (by decide +kernel) rfl ?_
  intro p e s m args below meth c s₁ B hml hv
  obtain ⟨hargs, hsz, hP, hK, hD0, hNw⟩ := hv
  have hx := B.exec
  have hb := B.bytes
  have hr := B.returns
  have hts := atoms_spec (ws := ws_F_decode) B.pre
  have hown : s.vm.findClass "FlashStore" = some m.cls := findClass_of_methodNamed B.named
  have hlocks := B.notSynchronized
  subst hsz
  have hD := hD0.self (sz := s.heap.size)
  generalize hAe : va_A (wF cA h0 q1 q2 q3 q4 q5 q6 st pl tk wd er nx md) s.heap.size = A at hD ⊢
  have hA : ∀ q : Nat, s.heap.size ≤ q → A q := fun q h => by rw [← hAe]; exact Or.inr h
  have hS : va_S A s.heap s.heap [] := va_S.rf
  have hP : va_P (dC, dI) vwCl (wF cA h0 q1 q2 q3 q4 q5 q6 st pl tk wd er nx md) s.heap := hP
  have w0 := (hts _ (List.mem_cons_of_mem _ bq_1_46))
  have hl := lv_entry ([.ref h0, .int a1]) (n := 3) (Nat.le_of_ble_eq_true rfl)
  have hen : entryFrame m args 3 = _ := (congrArg (fun z => entryFrame m z 3) hargs).trans (lg_entry_eq m ([.ref h0, .int a1]) 3)
  refine W.eq hen ?_
  clear hen
  generalize (lg_sl ([.ref h0, .int a1]) ++ List.replicate (3 - (lg_sl ([.ref h0, .int a1])).length) Slot.unset).toArray = ls at hl ⊢
  have hl : lv_has ls 3 [(0, .ref h0), (1, .int a1)] := hl
  have hF : (if 0 ≤ a1 then ((f_C_mend a1).bind fun r15 => if r15 = (-1 : Int32) then (none) else ((f_U_bitCount (a1 ^^^ r15)).bind fun r38 => (f_C_dataOf r15).bind fun r45 => some (r45, r38))) else (none)) = some (r, md') := hF
  refine lv_iload_n hx hb d_F_decode_0 rfl (lv_at hl 1 rfl) ?_
  refine lv_if_ge hx hb d_F_decode_1 (tgt := 14) (by decide) (fun h1 => ?_) (fun h1 => ?_)
  · have hF := tx_t h1 hF
    refine lv_iload_n hx hb d_F_decode_14 rfl (lv_at hl 1 rfl) ?_
    obtain ⟨r15, hc15, hF⟩ := tx_b hF
    refine vp_callSi (W.runS (As := [.int a1]) (rest := []) ⟨hx, hb, hml, hown, hts⟩ (c_C_mend l a1 r15 hc15) (va_cwS 1 hts (tg_S bq_1_224 bq_1_77 bq_1_9 bq_1_78) rfl rfl rfl (by decide +kernel) ⟨Nat.le_of_ble_eq_true rfl, Nat.le_of_ble_eq_true rfl⟩) ⟨tx_bl0, tx_pre0⟩ rfl rfl hl.1 rfl (lv_room (Nat.le_of_ble_eq_true rfl)) d_F_decode_15 ⟨Nat.zero_le _, Nat.zero_le _⟩) (fun zz hz => ?_)
    subst hz
    refine lv_istore_n hx hb d_F_decode_18 rfl hl (by decide) rfl (fun ls hl => ?_)
    have hl : lv_has ls 3 [(2, .int r15), (0, .ref h0), (1, .int a1)] := hl
    refine lv_iload_n hx hb d_F_decode_19 rfl (lv_at hl 0 rfl) ?_
    refine lv_iconst (v := (-1 : Int32)) hx hb d_F_decode_20 (by decide) ?_
    refine lv_icmp_ne hx hb d_F_decode_21 (tgt := 34) (by decide) (fun h21 => ?_) (fun h21 => ?_)
    · have hF := tx_f h21 hF
      refine lv_aload_n hx hb d_F_decode_34 rfl (lv_at hl 1 rfl) ?_
      refine lv_iload_n hx hb d_F_decode_35 rfl (lv_at hl 2 rfl) ?_
      refine lv_iload_n hx hb d_F_decode_36 rfl (lv_at hl 0 rfl) ?_
      refine lv_ixor hx hb d_F_decode_37 ?_
      obtain ⟨r38, hc38, hF⟩ := tx_b hF
      refine vp_callSi (W.runS (As := [.int (a1 ^^^ r15)]) (rest := [.ref h0]) ⟨hx, hb, hml, hown, hts⟩ (c_U_bitCount l (a1 ^^^ r15) r38 hc38) (va_cwS 1 hts (tg_S bq_2_1 bq_1_91 bq_1_10 bq_1_92) rfl rfl rfl (by decide +kernel) ⟨Nat.le_of_ble_eq_true rfl, Nat.le_of_ble_eq_true rfl⟩) ⟨tx_bl0, tx_pre0⟩ rfl rfl hl.1 rfl (lv_room (Nat.le_of_ble_eq_true rfl)) d_F_decode_38 ⟨Nat.zero_le _, Nat.zero_le _⟩) (fun zz hz => ?_)
      subst hz
      refine va_put (D := (dC, dI)) (ci := 1) (v := .int r38) (ty := .int) (C := "FlashStore") (T := TF) (N := 6) hx hb hts inTF tyTF tyTF_ok nmTF hown hK hP hD hS 0 rfl rfl 5 (by decide) w0 (fun _ h9 => h9) rfl (by decide +kernel) rfl rfl (Nat.le_of_ble_eq_true rfl) d_F_decode_41 (fun H locs hP hD hS => ?_)
      have hP : va_P (dC, dI) vwCl (wF cA h0 q1 q2 q3 q4 q5 q6 st pl tk wd er nx r38) H := hP
      have hD : va_D A (wF cA h0 q1 q2 q3 q4 q5 q6 st pl tk wd er nx r38) := hD
      refine lv_iload_n hx hb d_F_decode_44 rfl (lv_at hl 0 rfl) ?_
      obtain ⟨r45, hc45, hF⟩ := tx_b hF
      refine vp_callSi (W.runS (As := [.int r15]) (rest := []) ⟨hx, hb, hml, hown, hts⟩ (c_C_dataOf l r15 r45 hc45) (va_cwS 1 hts (tg_S bq_2_2 bq_1_101 bq_1_9 bq_1_102) rfl rfl rfl (by decide +kernel) ⟨Nat.le_of_ble_eq_true rfl, Nat.le_of_ble_eq_true rfl⟩) ⟨tx_bl0, tx_pre0⟩ rfl rfl hl.1 rfl (lv_room (Nat.le_of_ble_eq_true rfl)) d_F_decode_45 ⟨Nat.zero_le _, Nat.zero_le _⟩) (fun zz hz => ?_)
      subst hz
      cases hF
      exact W.iret hx hb hr (fun t ht hW => ⟨⟨_, (), rfl, rfl, by rw [ht]; exact hP, hD⟩, hS.F ht⟩) hS.2.2 d_F_decode_48
    · have hF := tx_t h21 hF
      cases hF
  · have hF := tx_f h1 hF
    cases hF
end
