abbrev rm_U_bitCount : Room := { frames := 0, cells := 0, slots := 0, locals := 0 }
set_option maxHeartbeats 4000000 in
set_option maxRecDepth 100000 in
theorem c_U_bitCount (l : Launch) (a1 : Int32) (r : Int32)  (hF : f_U_bitCount a1 = some r) : Met l y_U_bitCount ws_U_bitCount rm_U_bitCount (va_Pc [.int a1] (fun _ => True)) (vp_Si (fun z => r = z)) 0 0 (fun _ => False) := by
  refine va_MetF (cc := b_U_bitCount) (maxL := 1) (ret := some .int) (by decide +kernel) rfl ?_
  intro p e s m args below meth c s₁ B hml hv
  obtain ⟨hargs, -⟩ := hv
  have hx := B.exec
  have hb := B.bytes
  have hr := B.returns
  have hts := atoms_spec (ws := ws_U_bitCount) B.pre
  have hown : s.vm.findClass "java/lang/Integer" = some m.cls := findClass_of_methodNamed B.named
  have hlocks := B.notSynchronized
  have w0 := hts (.constant "java/lang/Integer" 265 (1431655765 : Int32)) (by decide +kernel)
  have w1 := hts (.constant "java/lang/Integer" 266 (858993459 : Int32)) (by decide +kernel)
  have w2 := hts (.constant "java/lang/Integer" 267 (252645135 : Int32)) (by decide +kernel)
  have hl := lv_entry ([.int a1]) (n := 1) (Nat.le_of_ble_eq_true rfl)
  have hen : entryFrame m args 1 = _ := (congrArg (fun z => entryFrame m z 1) hargs).trans (lg_entry_eq m ([.int a1]) 1)
  refine W.eq hen ?_
  clear hen
  generalize (lg_sl ([.int a1]) ++ List.replicate (1 - (lg_sl ([.int a1])).length) Slot.unset).toArray = ls at hl ⊢
  have hl : lv_has ls 1 [(0, .int a1)] := hl
  have hF : (some ((((((((a1 - (((a1.toUInt32 >>> ((1 : Int32).toUInt32 &&& Int32.toUInt32 31)).toInt32) &&& (1431655765 : Int32))) &&& (858993459 : Int32)) + ((((a1 - (((a1.toUInt32 >>> ((1 : Int32).toUInt32 &&& Int32.toUInt32 31)).toInt32) &&& (1431655765 : Int32))).toUInt32 >>> ((2 : Int32).toUInt32 &&& Int32.toUInt32 31)).toInt32) &&& (858993459 : Int32))) + (((((a1 - (((a1.toUInt32 >>> ((1 : Int32).toUInt32 &&& Int32.toUInt32 31)).toInt32) &&& (1431655765 : Int32))) &&& (858993459 : Int32)) + ((((a1 - (((a1.toUInt32 >>> ((1 : Int32).toUInt32 &&& Int32.toUInt32 31)).toInt32) &&& (1431655765 : Int32))).toUInt32 >>> ((2 : Int32).toUInt32 &&& Int32.toUInt32 31)).toInt32) &&& (858993459 : Int32))).toUInt32 >>> ((4 : Int32).toUInt32 &&& Int32.toUInt32 31)).toInt32)) &&& (252645135 : Int32)) + (((((((a1 - (((a1.toUInt32 >>> ((1 : Int32).toUInt32 &&& Int32.toUInt32 31)).toInt32) &&& (1431655765 : Int32))) &&& (858993459 : Int32)) + ((((a1 - (((a1.toUInt32 >>> ((1 : Int32).toUInt32 &&& Int32.toUInt32 31)).toInt32) &&& (1431655765 : Int32))).toUInt32 >>> ((2 : Int32).toUInt32 &&& Int32.toUInt32 31)).toInt32) &&& (858993459 : Int32))) + (((((a1 - (((a1.toUInt32 >>> ((1 : Int32).toUInt32 &&& Int32.toUInt32 31)).toInt32) &&& (1431655765 : Int32))) &&& (858993459 : Int32)) + ((((a1 - (((a1.toUInt32 >>> ((1 : Int32).toUInt32 &&& Int32.toUInt32 31)).toInt32) &&& (1431655765 : Int32))).toUInt32 >>> ((2 : Int32).toUInt32 &&& Int32.toUInt32 31)).toInt32) &&& (858993459 : Int32))).toUInt32 >>> ((4 : Int32).toUInt32 &&& Int32.toUInt32 31)).toInt32)) &&& (252645135 : Int32)).toUInt32 >>> ((8 : Int32).toUInt32 &&& Int32.toUInt32 31)).toInt32)) + ((((((((a1 - (((a1.toUInt32 >>> ((1 : Int32).toUInt32 &&& Int32.toUInt32 31)).toInt32) &&& (1431655765 : Int32))) &&& (858993459 : Int32)) + ((((a1 - (((a1.toUInt32 >>> ((1 : Int32).toUInt32 &&& Int32.toUInt32 31)).toInt32) &&& (1431655765 : Int32))).toUInt32 >>> ((2 : Int32).toUInt32 &&& Int32.toUInt32 31)).toInt32) &&& (858993459 : Int32))) + (((((a1 - (((a1.toUInt32 >>> ((1 : Int32).toUInt32 &&& Int32.toUInt32 31)).toInt32) &&& (1431655765 : Int32))) &&& (858993459 : Int32)) + ((((a1 - (((a1.toUInt32 >>> ((1 : Int32).toUInt32 &&& Int32.toUInt32 31)).toInt32) &&& (1431655765 : Int32))).toUInt32 >>> ((2 : Int32).toUInt32 &&& Int32.toUInt32 31)).toInt32) &&& (858993459 : Int32))).toUInt32 >>> ((4 : Int32).toUInt32 &&& Int32.toUInt32 31)).toInt32)) &&& (252645135 : Int32)) + (((((((a1 - (((a1.toUInt32 >>> ((1 : Int32).toUInt32 &&& Int32.toUInt32 31)).toInt32) &&& (1431655765 : Int32))) &&& (858993459 : Int32)) + ((((a1 - (((a1.toUInt32 >>> ((1 : Int32).toUInt32 &&& Int32.toUInt32 31)).toInt32) &&& (1431655765 : Int32))).toUInt32 >>> ((2 : Int32).toUInt32 &&& Int32.toUInt32 31)).toInt32) &&& (858993459 : Int32))) + (((((a1 - (((a1.toUInt32 >>> ((1 : Int32).toUInt32 &&& Int32.toUInt32 31)).toInt32) &&& (1431655765 : Int32))) &&& (858993459 : Int32)) + ((((a1 - (((a1.toUInt32 >>> ((1 : Int32).toUInt32 &&& Int32.toUInt32 31)).toInt32) &&& (1431655765 : Int32))).toUInt32 >>> ((2 : Int32).toUInt32 &&& Int32.toUInt32 31)).toInt32) &&& (858993459 : Int32))).toUInt32 >>> ((4 : Int32).toUInt32 &&& Int32.toUInt32 31)).toInt32)) &&& (252645135 : Int32)).toUInt32 >>> ((8 : Int32).toUInt32 &&& Int32.toUInt32 31)).toInt32)).toUInt32 >>> ((16 : Int32).toUInt32 &&& Int32.toUInt32 31)).toInt32)) &&& (63 : Int32))) = some r := hF
  refine lv_iload_n hx hb d_U_bitCount_0 rfl (lv_at hl 0 rfl) ?_
  refine lv_iload_n hx hb d_U_bitCount_1 rfl (lv_at hl 0 rfl) ?_
  refine lv_iconst (v := (1 : Int32)) hx hb d_U_bitCount_2 (by decide) ?_
  refine lv_iushr hx hb d_U_bitCount_3 rfl ?_
  refine lv_ldcw hx hb hown w0 d_U_bitCount_4 ?_
  refine lv_iand hx hb d_U_bitCount_7 ?_
  refine lv_isub hx hb d_U_bitCount_8 ?_
  refine lv_istore_n hx hb d_U_bitCount_9 rfl hl (by decide) rfl (fun ls hl => ?_)
  have hl : lv_has ls 1 [(0, .int (a1 - (((a1.toUInt32 >>> ((1 : Int32).toUInt32 &&& Int32.toUInt32 31)).toInt32) &&& (1431655765 : Int32))))] := hl
  refine lv_iload_n hx hb d_U_bitCount_10 rfl (lv_at hl 0 rfl) ?_
  refine lv_ldcw hx hb hown w1 d_U_bitCount_11 ?_
  refine lv_iand hx hb d_U_bitCount_14 ?_
  refine lv_iload_n hx hb d_U_bitCount_15 rfl (lv_at hl 0 rfl) ?_
  refine lv_iconst (v := (2 : Int32)) hx hb d_U_bitCount_16 (by decide) ?_
  refine lv_iushr hx hb d_U_bitCount_17 rfl ?_
  refine lv_ldcw hx hb hown w1 d_U_bitCount_18 ?_
  refine lv_iand hx hb d_U_bitCount_21 ?_
  refine lv_iadd hx hb d_U_bitCount_22 ?_
  refine lv_istore_n hx hb d_U_bitCount_23 rfl hl (by decide) rfl (fun ls hl => ?_)
  have hl : lv_has ls 1 [(0, .int (((a1 - (((a1.toUInt32 >>> ((1 : Int32).toUInt32 &&& Int32.toUInt32 31)).toInt32) &&& (1431655765 : Int32))) &&& (858993459 : Int32)) + ((((a1 - (((a1.toUInt32 >>> ((1 : Int32).toUInt32 &&& Int32.toUInt32 31)).toInt32) &&& (1431655765 : Int32))).toUInt32 >>> ((2 : Int32).toUInt32 &&& Int32.toUInt32 31)).toInt32) &&& (858993459 : Int32))))] := hl
  refine lv_iload_n hx hb d_U_bitCount_24 rfl (lv_at hl 0 rfl) ?_
  refine lv_iload_n hx hb d_U_bitCount_25 rfl (lv_at hl 0 rfl) ?_
  refine lv_iconst (v := (4 : Int32)) hx hb d_U_bitCount_26 (by decide) ?_
  refine lv_iushr hx hb d_U_bitCount_27 rfl ?_
  refine lv_iadd hx hb d_U_bitCount_28 ?_
  refine lv_ldcw hx hb hown w2 d_U_bitCount_29 ?_
  refine lv_iand hx hb d_U_bitCount_32 ?_
  refine lv_istore_n hx hb d_U_bitCount_33 rfl hl (by decide) rfl (fun ls hl => ?_)
  have hl : lv_has ls 1 [(0, .int (((((a1 - (((a1.toUInt32 >>> ((1 : Int32).toUInt32 &&& Int32.toUInt32 31)).toInt32) &&& (1431655765 : Int32))) &&& (858993459 : Int32)) + ((((a1 - (((a1.toUInt32 >>> ((1 : Int32).toUInt32 &&& Int32.toUInt32 31)).toInt32) &&& (1431655765 : Int32))).toUInt32 >>> ((2 : Int32).toUInt32 &&& Int32.toUInt32 31)).toInt32) &&& (858993459 : Int32))) + (((((a1 - (((a1.toUInt32 >>> ((1 : Int32).toUInt32 &&& Int32.toUInt32 31)).toInt32) &&& (1431655765 : Int32))) &&& (858993459 : Int32)) + ((((a1 - (((a1.toUInt32 >>> ((1 : Int32).toUInt32 &&& Int32.toUInt32 31)).toInt32) &&& (1431655765 : Int32))).toUInt32 >>> ((2 : Int32).toUInt32 &&& Int32.toUInt32 31)).toInt32) &&& (858993459 : Int32))).toUInt32 >>> ((4 : Int32).toUInt32 &&& Int32.toUInt32 31)).toInt32)) &&& (252645135 : Int32)))] := hl
  refine lv_iload_n hx hb d_U_bitCount_34 rfl (lv_at hl 0 rfl) ?_
  refine lv_iload_n hx hb d_U_bitCount_35 rfl (lv_at hl 0 rfl) ?_
  refine lv_bipush (v := (8 : Int32)) hx hb d_U_bitCount_36 (by decide) ?_
  refine lv_iushr hx hb d_U_bitCount_38 rfl ?_
  refine lv_iadd hx hb d_U_bitCount_39 ?_
  refine lv_istore_n hx hb d_U_bitCount_40 rfl hl (by decide) rfl (fun ls hl => ?_)
  have hl : lv_has ls 1 [(0, .int ((((((a1 - (((a1.toUInt32 >>> ((1 : Int32).toUInt32 &&& Int32.toUInt32 31)).toInt32) &&& (1431655765 : Int32))) &&& (858993459 : Int32)) + ((((a1 - (((a1.toUInt32 >>> ((1 : Int32).toUInt32 &&& Int32.toUInt32 31)).toInt32) &&& (1431655765 : Int32))).toUInt32 >>> ((2 : Int32).toUInt32 &&& Int32.toUInt32 31)).toInt32) &&& (858993459 : Int32))) + (((((a1 - (((a1.toUInt32 >>> ((1 : Int32).toUInt32 &&& Int32.toUInt32 31)).toInt32) &&& (1431655765 : Int32))) &&& (858993459 : Int32)) + ((((a1 - (((a1.toUInt32 >>> ((1 : Int32).toUInt32 &&& Int32.toUInt32 31)).toInt32) &&& (1431655765 : Int32))).toUInt32 >>> ((2 : Int32).toUInt32 &&& Int32.toUInt32 31)).toInt32) &&& (858993459 : Int32))).toUInt32 >>> ((4 : Int32).toUInt32 &&& Int32.toUInt32 31)).toInt32)) &&& (252645135 : Int32)) + (((((((a1 - (((a1.toUInt32 >>> ((1 : Int32).toUInt32 &&& Int32.toUInt32 31)).toInt32) &&& (1431655765 : Int32))) &&& (858993459 : Int32)) + ((((a1 - (((a1.toUInt32 >>> ((1 : Int32).toUInt32 &&& Int32.toUInt32 31)).toInt32) &&& (1431655765 : Int32))).toUInt32 >>> ((2 : Int32).toUInt32 &&& Int32.toUInt32 31)).toInt32) &&& (858993459 : Int32))) + (((((a1 - (((a1.toUInt32 >>> ((1 : Int32).toUInt32 &&& Int32.toUInt32 31)).toInt32) &&& (1431655765 : Int32))) &&& (858993459 : Int32)) + ((((a1 - (((a1.toUInt32 >>> ((1 : Int32).toUInt32 &&& Int32.toUInt32 31)).toInt32) &&& (1431655765 : Int32))).toUInt32 >>> ((2 : Int32).toUInt32 &&& Int32.toUInt32 31)).toInt32) &&& (858993459 : Int32))).toUInt32 >>> ((4 : Int32).toUInt32 &&& Int32.toUInt32 31)).toInt32)) &&& (252645135 : Int32)).toUInt32 >>> ((8 : Int32).toUInt32 &&& Int32.toUInt32 31)).toInt32)))] := hl
  refine lv_iload_n hx hb d_U_bitCount_41 rfl (lv_at hl 0 rfl) ?_
  refine lv_iload_n hx hb d_U_bitCount_42 rfl (lv_at hl 0 rfl) ?_
  refine lv_bipush (v := (16 : Int32)) hx hb d_U_bitCount_43 (by decide) ?_
  refine lv_iushr hx hb d_U_bitCount_45 rfl ?_
  refine lv_iadd hx hb d_U_bitCount_46 ?_
  refine lv_istore_n hx hb d_U_bitCount_47 rfl hl (by decide) rfl (fun ls hl => ?_)
  have hl : lv_has ls 1 [(0, .int (((((((a1 - (((a1.toUInt32 >>> ((1 : Int32).toUInt32 &&& Int32.toUInt32 31)).toInt32) &&& (1431655765 : Int32))) &&& (858993459 : Int32)) + ((((a1 - (((a1.toUInt32 >>> ((1 : Int32).toUInt32 &&& Int32.toUInt32 31)).toInt32) &&& (1431655765 : Int32))).toUInt32 >>> ((2 : Int32).toUInt32 &&& Int32.toUInt32 31)).toInt32) &&& (858993459 : Int32))) + (((((a1 - (((a1.toUInt32 >>> ((1 : Int32).toUInt32 &&& Int32.toUInt32 31)).toInt32) &&& (1431655765 : Int32))) &&& (858993459 : Int32)) + ((((a1 - (((a1.toUInt32 >>> ((1 : Int32).toUInt32 &&& Int32.toUInt32 31)).toInt32) &&& (1431655765 : Int32))).toUInt32 >>> ((2 : Int32).toUInt32 &&& Int32.toUInt32 31)).toInt32) &&& (858993459 : Int32))).toUInt32 >>> ((4 : Int32).toUInt32 &&& Int32.toUInt32 31)).toInt32)) &&& (252645135 : Int32)) + (((((((a1 - (((a1.toUInt32 >>> ((1 : Int32).toUInt32 &&& Int32.toUInt32 31)).toInt32) &&& (1431655765 : Int32))) &&& (858993459 : Int32)) + ((((a1 - (((a1.toUInt32 >>> ((1 : Int32).toUInt32 &&& Int32.toUInt32 31)).toInt32) &&& (1431655765 : Int32))).toUInt32 >>> ((2 : Int32).toUInt32 &&& Int32.toUInt32 31)).toInt32) &&& (858993459 : Int32))) + (((((a1 - (((a1.toUInt32 >>> ((1 : Int32).toUInt32 &&& Int32.toUInt32 31)).toInt32) &&& (1431655765 : Int32))) &&& (858993459 : Int32)) + ((((a1 - (((a1.toUInt32 >>> ((1 : Int32).toUInt32 &&& Int32.toUInt32 31)).toInt32) &&& (1431655765 : Int32))).toUInt32 >>> ((2 : Int32).toUInt32 &&& Int32.toUInt32 31)).toInt32) &&& (858993459 : Int32))).toUInt32 >>> ((4 : Int32).toUInt32 &&& Int32.toUInt32 31)).toInt32)) &&& (252645135 : Int32)).toUInt32 >>> ((8 : Int32).toUInt32 &&& Int32.toUInt32 31)).toInt32)) + ((((((((a1 - (((a1.toUInt32 >>> ((1 : Int32).toUInt32 &&& Int32.toUInt32 31)).toInt32) &&& (1431655765 : Int32))) &&& (858993459 : Int32)) + ((((a1 - (((a1.toUInt32 >>> ((1 : Int32).toUInt32 &&& Int32.toUInt32 31)).toInt32) &&& (1431655765 : Int32))).toUInt32 >>> ((2 : Int32).toUInt32 &&& Int32.toUInt32 31)).toInt32) &&& (858993459 : Int32))) + (((((a1 - (((a1.toUInt32 >>> ((1 : Int32).toUInt32 &&& Int32.toUInt32 31)).toInt32) &&& (1431655765 : Int32))) &&& (858993459 : Int32)) + ((((a1 - (((a1.toUInt32 >>> ((1 : Int32).toUInt32 &&& Int32.toUInt32 31)).toInt32) &&& (1431655765 : Int32))).toUInt32 >>> ((2 : Int32).toUInt32 &&& Int32.toUInt32 31)).toInt32) &&& (858993459 : Int32))).toUInt32 >>> ((4 : Int32).toUInt32 &&& Int32.toUInt32 31)).toInt32)) &&& (252645135 : Int32)) + (((((((a1 - (((a1.toUInt32 >>> ((1 : Int32).toUInt32 &&& Int32.toUInt32 31)).toInt32) &&& (1431655765 : Int32))) &&& (858993459 : Int32)) + ((((a1 - (((a1.toUInt32 >>> ((1 : Int32).toUInt32 &&& Int32.toUInt32 31)).toInt32) &&& (1431655765 : Int32))).toUInt32 >>> ((2 : Int32).toUInt32 &&& Int32.toUInt32 31)).toInt32) &&& (858993459 : Int32))) + (((((a1 - (((a1.toUInt32 >>> ((1 : Int32).toUInt32 &&& Int32.toUInt32 31)).toInt32) &&& (1431655765 : Int32))) &&& (858993459 : Int32)) + ((((a1 - (((a1.toUInt32 >>> ((1 : Int32).toUInt32 &&& Int32.toUInt32 31)).toInt32) &&& (1431655765 : Int32))).toUInt32 >>> ((2 : Int32).toUInt32 &&& Int32.toUInt32 31)).toInt32) &&& (858993459 : Int32))).toUInt32 >>> ((4 : Int32).toUInt32 &&& Int32.toUInt32 31)).toInt32)) &&& (252645135 : Int32)).toUInt32 >>> ((8 : Int32).toUInt32 &&& Int32.toUInt32 31)).toInt32)).toUInt32 >>> ((16 : Int32).toUInt32 &&& Int32.toUInt32 31)).toInt32)))] := hl
  refine lv_iload_n hx hb d_U_bitCount_48 rfl (lv_at hl 0 rfl) ?_
  refine lv_bipush (v := (63 : Int32)) hx hb d_U_bitCount_49 (by decide) ?_
  refine lv_iand hx hb d_U_bitCount_51 ?_
  exact W.iret hx hb hr (fun t ht hW => ⟨_, rfl, (Option.some.inj hF).symm, ht⟩) (fun q h => by cases h) d_U_bitCount_52
abbrev rm_U_floorMod : Room := { frames := 0, cells := 0, slots := 0, locals := 0 }
set_option maxHeartbeats 4000000 in
set_option maxRecDepth 100000 in
theorem c_U_floorMod (l : Launch) (a1 : Int32) (a2 : Int32) (r : Int32)  (hF : f_U_floorMod a1 a2 = some r) : Met l y_U_floorMod ws_U_floorMod rm_U_floorMod (va_Pc [.int a1, .int a2] (fun _ => True)) (vp_Si (fun z => r = z)) 0 0 (fun _ => False) := by
  refine va_MetF (cc := b_U_floorMod) (maxL := 3) (ret := some .int) (by decide +kernel) rfl ?_
  intro p e s m args below meth c s₁ B hml hv
  obtain ⟨hargs, -⟩ := hv
  have hx := B.exec
  have hb := B.bytes
  have hr := B.returns
  have hts := atoms_spec (ws := ws_U_floorMod) B.pre
  have hown : s.vm.findClass "java/lang/Math" = some m.cls := findClass_of_methodNamed B.named
  have hlocks := B.notSynchronized
  have hl := lv_entry ([.int a1, .int a2]) (n := 3) (Nat.le_of_ble_eq_true rfl)
  have hen : entryFrame m args 3 = _ := (congrArg (fun z => entryFrame m z 3) hargs).trans (lg_entry_eq m ([.int a1, .int a2]) 3)
  refine W.eq hen ?_
  clear hen
  generalize (lg_sl ([.int a1, .int a2]) ++ List.replicate (3 - (lg_sl ([.int a1, .int a2])).length) Slot.unset).toArray = ls at hl ⊢
  have hl : lv_has ls 3 [(0, .int a1), (1, .int a2)] := hl
  have J18 : ∀ (ls : Array Slot) (v2 : Int32), lv_has ls 3 [(2, .int v2)] → f_U_floorMod_J18 v2 = some r → W p l e (headSpec ws_U_floorMod rm_U_floorMod).room s m args below meth c s.heap [] 0 0 (MQ below (vp_Si (fun z => r = z)) args s 0 0 (fun _ => False)) (F0 m 18 ls []) := by
    intro ls v2 hl hF
    have hF : (some v2) = some r := hF
    refine lv_iload_n hx hb d_U_floorMod_18 rfl (lv_at hl 0 rfl) ?_
    exact W.iret hx hb hr (fun t ht hW => ⟨_, rfl, (Option.some.inj hF).symm, ht⟩) (fun q h => by cases h) d_U_floorMod_19
  have hF : (if a2 = 0 then none else if 0 ≤ (a1 ^^^ a2) then (f_U_floorMod_J18 (a1 - a1 / a2 * a2)) else (if (a1 - a1 / a2 * a2) = 0 then (f_U_floorMod_J18 (a1 - a1 / a2 * a2)) else (some ((a1 - a1 / a2 * a2) + a2)))) = some r := hF
  refine lv_iload_n hx hb d_U_floorMod_0 rfl (lv_at hl 0 rfl) ?_
  refine lv_iload_n hx hb d_U_floorMod_1 rfl (lv_at hl 1 rfl) ?_
  obtain ⟨hz2, hF⟩ := tx_g hF
  refine lv_irem hx hb d_U_floorMod_2 hz2 ?_
  refine lv_istore_n hx hb d_U_floorMod_3 rfl hl (by decide) rfl (fun ls hl => ?_)
  have hl : lv_has ls 3 [(2, .int (a1 - a1 / a2 * a2)), (0, .int a1), (1, .int a2)] := hl
  refine lv_iload_n hx hb d_U_floorMod_4 rfl (lv_at hl 1 rfl) ?_
  refine lv_iload_n hx hb d_U_floorMod_5 rfl (lv_at hl 2 rfl) ?_
  refine lv_ixor hx hb d_U_floorMod_6 ?_
  refine lv_if_ge hx hb d_U_floorMod_7 (tgt := 18) (by decide) (fun h7 => ?_) (fun h7 => ?_)
  · have hF := tx_t h7 hF
    exact J18 _ (a1 - a1 / a2 * a2) (lv_sub hl [0] rfl) hF
  · have hF := tx_f h7 hF
    refine lv_iload_n hx hb d_U_floorMod_10 rfl (lv_at hl 0 rfl) ?_
    refine lv_if_eq hx hb d_U_floorMod_11 (tgt := 18) (by decide) (fun h11 => ?_) (fun h11 => ?_)
    · have hF := tx_t h11 hF
      exact J18 _ (a1 - a1 / a2 * a2) (lv_sub hl [0] rfl) hF
    · have hF := tx_f h11 hF
      refine lv_iload_n hx hb d_U_floorMod_14 rfl (lv_at hl 0 rfl) ?_
      refine lv_iload_n hx hb d_U_floorMod_15 rfl (lv_at hl 2 rfl) ?_
      refine lv_iadd hx hb d_U_floorMod_16 ?_
      exact W.iret hx hb hr (fun t ht hW => ⟨_, rfl, (Option.some.inj hF).symm, ht⟩) (fun q h => by cases h) d_U_floorMod_17
abbrev rm_C_remainder : Room := { frames := 0, cells := 0, slots := 0, locals := 0 }
set_option maxHeartbeats 4000000 in
set_option maxRecDepth 100000 in
theorem c_C_remainder (l : Launch) (a1 : Int32) (r : Int32)  (hF : f_C_remainder a1 = some r) : Met l y_C_remainder ws_C_remainder rm_C_remainder (va_Pc [.int a1] (fun _ => True)) (vp_Si (fun z => r = z)) 0 0 (fun _ => False) := by
  refine Met.ofW (cc := b_C_remainder) (maxL := 3) (ret := some .int) (by decide +kernel) rfl ?_
  intro p e s m args below meth c s₁ B hml hv
  obtain ⟨hargs, -⟩ := hv
  have hx := B.exec
  have hb := B.bytes
  have hr := B.returns
  have hts := atoms_spec (ws := ws_C_remainder) B.pre
  have hown : s.vm.findClass "FlashStore$Code" = some m.cls := findClass_of_methodNamed B.named
  have hlocks := B.notSynchronized
  have w0 := hts (.constant "FlashStore$Code" 30 (36783 : Int32)) (by decide +kernel)
  have hl := lv_entry ([.int a1]) (n := 3) (Nat.le_of_ble_eq_true rfl)
  have hen : entryFrame m args 3 = _ := (congrArg (fun z => entryFrame m z 3) hargs).trans (lg_entry_eq m ([.int a1]) 3)
  refine W.eq hen ?_
  clear hen
  generalize (lg_sl ([.int a1]) ++ List.replicate (3 - (lg_sl ([.int a1])).length) Slot.unset).toArray = ls at hl ⊢
  have hl : lv_has ls 3 [(0, .int a1)] := hl
  have J29 : ∀ (rc : Int32 → Int32 → Option (Int32)) (hrec0 : ∀ (ls : Array Slot) (v1 : Int32) (v2 : Int32), lv_has ls 3 [(1, .int v1), (2, .int v2)] → rc v1 v2 = some r → W p l e (headSpec ws_C_remainder rm_C_remainder).room s m args below meth c s.heap [] 0 0 (MQ below (vp_Si (fun z => r = z)) args s 0 0 (fun _ => False)) (F0 m 5 ls [])), ∀ (ls : Array Slot) (v1 : Int32) (v2 : Int32), lv_has ls 3 [(1, .int v1), (2, .int v2)] → f_C_remainder_J29 rc v1 v2 = some r → W p l e (headSpec ws_C_remainder rm_C_remainder).room s m args below meth c s.heap [] 0 0 (MQ below (vp_Si (fun z => r = z)) args s 0 0 (fun _ => False)) (F0 m 29 ls []) := by
    intro rc hrec0
    intro ls v1 v2 hl hF
    have hF : (rc v1 (v2 + (-1 : Int32))) = some r := hF
    refine lv_iinc (k := 1) (v := (v2 + (-1 : Int32))) hx hb d_C_remainder_29 hl rfl rfl (by decide) rfl (fun ls hl => ?_)
    have hl : lv_has ls 3 [(2, .int (v2 + (-1 : Int32))), (1, .int v1)] := hl
    refine lv_goto hx hb d_C_remainder_32 (tgt := 5) (by decide) ?_
    exact hrec0 _ v1 (v2 + (-1 : Int32)) (lv_sub hl [1, 0] rfl) hF
  have LH : ∀ n : Nat, (∀ (ls : Array Slot) (v1 : Int32) (v2 : Int32), lv_has ls 3 [(1, .int v1), (2, .int v2)] → f_C_remainder_H n v1 v2 = some r → W p l e (headSpec ws_C_remainder rm_C_remainder).room s m args below meth c s.heap [] 0 0 (MQ below (vp_Si (fun z => r = z)) args s 0 0 (fun _ => False)) (F0 m 5 ls [])) := by
    intro n
    induction n with
    | zero =>
      exact (by intro ls v1 v2 hl hF; have hF : (none : Option (Int32)) = _ := hF; cases hF)
    | succ n ih =>
      have hrec0 := ih
      intro ls v1 v2 hl hF
      have hF : (if v2 < (15 : Int32) then (some v1) else (if (v1 &&& ((1 : Int32) <<< (v2 &&& 31))) = 0 then (f_C_remainder_J29 (f_C_remainder_H n) v1 v2) else (f_C_remainder_J29 (f_C_remainder_H n) (v1 ^^^ ((36783 : Int32) <<< ((v2 - (15 : Int32)) &&& 31))) v2))) = some r := hF
      refine lv_iload_n hx hb d_C_remainder_5 rfl (lv_at hl 1 rfl) ?_
      refine lv_bipush (v := (15 : Int32)) hx hb d_C_remainder_6 (by decide) ?_
      refine lv_icmp_lt hx hb d_C_remainder_8 (tgt := 35) (by decide) (fun h8 => ?_) (fun h8 => ?_)
      · have hF := tx_t h8 hF
        refine lv_iload_n hx hb d_C_remainder_35 rfl (lv_at hl 0 rfl) ?_
        exact W.iret hx hb hr (fun t ht hW => ⟨_, rfl, (Option.some.inj hF).symm, ht⟩) (fun q h => by cases h) d_C_remainder_36
      · have hF := tx_f h8 hF
        refine lv_iload_n hx hb d_C_remainder_11 rfl (lv_at hl 0 rfl) ?_
        refine lv_iconst (v := (1 : Int32)) hx hb d_C_remainder_12 (by decide) ?_
        refine lv_iload_n hx hb d_C_remainder_13 rfl (lv_at hl 1 rfl) ?_
        refine lv_ishl hx hb d_C_remainder_14 ?_
        refine lv_iand hx hb d_C_remainder_15 ?_
        refine lv_if_eq hx hb d_C_remainder_16 (tgt := 29) (by decide) (fun h16 => ?_) (fun h16 => ?_)
        · have hF := tx_t h16 hF
          exact J29 _ hrec0 _ v1 v2 hl hF
        · have hF := tx_f h16 hF
          refine lv_iload_n hx hb d_C_remainder_19 rfl (lv_at hl 0 rfl) ?_
          refine lv_ldc hx hb hown w0 d_C_remainder_20 ?_
          refine lv_iload_n hx hb d_C_remainder_22 rfl (lv_at hl 1 rfl) ?_
          refine lv_bipush (v := (15 : Int32)) hx hb d_C_remainder_23 (by decide) ?_
          refine lv_isub hx hb d_C_remainder_25 ?_
          refine lv_ishl hx hb d_C_remainder_26 ?_
          refine lv_ixor hx hb d_C_remainder_27 ?_
          refine lv_istore_n hx hb d_C_remainder_28 rfl hl (by decide) rfl (fun ls hl => ?_)
          have hl : lv_has ls 3 [(1, .int (v1 ^^^ ((36783 : Int32) <<< ((v2 - (15 : Int32)) &&& 31)))), (2, .int v2)] := hl
          exact J29 _ hrec0 _ (v1 ^^^ ((36783 : Int32) <<< ((v2 - (15 : Int32)) &&& 31))) v2 hl hF
  obtain hrec0 := LH 100
  have hF : (f_C_remainder_H 100 a1 (30 : Int32)) = some r := hF
  refine lv_iload_n hx hb d_C_remainder_0 rfl (lv_at hl 0 rfl) ?_
  refine lv_istore_n hx hb d_C_remainder_1 rfl hl (by decide) rfl (fun ls hl => ?_)
  have hl : lv_has ls 3 [(1, .int a1), (0, .int a1)] := hl
  refine lv_bipush (v := (30 : Int32)) hx hb d_C_remainder_2 (by decide) ?_
  refine lv_istore_n hx hb d_C_remainder_4 rfl hl (by decide) rfl (fun ls hl => ?_)
  have hl : lv_has ls 3 [(2, .int (30 : Int32)), (1, .int a1), (0, .int a1)] := hl
  exact hrec0 _ a1 (30 : Int32) (lv_sub hl [1, 0] rfl) hF
abbrev rm_C_codewordOf : Room := { frames := 1, cells := 0, slots := 0, locals := 22 }
set_option maxHeartbeats 4000000 in
set_option maxRecDepth 100000 in
theorem c_C_codewordOf (l : Launch) (a1 : Int32) (r : Int32)  (hF : f_C_codewordOf a1 = some r) : Met l y_C_codewordOf ws_C_codewordOf rm_C_codewordOf (va_Pc [.int a1] (fun _ => True)) (vp_Si (fun z => r = z)) 0 0 (fun _ => False) := by
  refine Met.ofW (cc := b_C_codewordOf) (maxL := 2) (ret := some .int) (by decide +kernel) rfl ?_
  intro p e s m args below meth c s₁ B hml hv
  obtain ⟨hargs, -⟩ := hv
  have hx := B.exec
  have hb := B.bytes
  have hr := B.returns
  have hts := atoms_spec (ws := ws_C_codewordOf) B.pre
  have hown : s.vm.findClass "FlashStore$Code" = some m.cls := findClass_of_methodNamed B.named
  have hlocks := B.notSynchronized
  have hl := lv_entry ([.int a1]) (n := 2) (Nat.le_of_ble_eq_true rfl)
  have hen : entryFrame m args 2 = _ := (congrArg (fun z => entryFrame m z 2) hargs).trans (lg_entry_eq m ([.int a1]) 2)
  refine W.eq hen ?_
  clear hen
  generalize (lg_sl ([.int a1]) ++ List.replicate (2 - (lg_sl ([.int a1])).length) Slot.unset).toArray = ls at hl ⊢
  have hl : lv_has ls 2 [(0, .int a1)] := hl
  have hF : ((f_C_remainder (a1 <<< ((15 : Int32) &&& 31))).bind fun r7 => some ((a1 <<< ((15 : Int32) &&& 31)) ||| r7)) = some r := hF
  refine lv_iload_n hx hb d_C_codewordOf_0 rfl (lv_at hl 0 rfl) ?_
  refine lv_bipush (v := (15 : Int32)) hx hb d_C_codewordOf_1 (by decide) ?_
  refine lv_ishl hx hb d_C_codewordOf_3 ?_
  refine lv_istore_n hx hb d_C_codewordOf_4 rfl hl (by decide) rfl (fun ls hl => ?_)
  have hl : lv_has ls 2 [(1, .int (a1 <<< ((15 : Int32) &&& 31))), (0, .int a1)] := hl
  refine lv_iload_n hx hb d_C_codewordOf_5 rfl (lv_at hl 0 rfl) ?_
  refine lv_iload_n hx hb d_C_codewordOf_6 rfl (lv_at hl 0 rfl) ?_
  obtain ⟨r7, hc7, hF⟩ := tx_b hF
  refine vp_callSi (W.runS (As := [.int (a1 <<< ((15 : Int32) &&& 31))]) (rest := [.int (a1 <<< ((15 : Int32) &&& 31))]) ⟨hx, hb, hml, hown, hts⟩ (c_C_remainder l (a1 <<< ((15 : Int32) &&& 31)) r7 hc7) (va_cwS 1 hts (tg_S bq_1_86 bq_1_87 bq_1_9 bq_1_88) rfl rfl rfl (by decide +kernel) ⟨Nat.le_of_ble_eq_true rfl, Nat.le_of_ble_eq_true rfl⟩) ⟨tx_bl0, tx_pre0⟩ rfl rfl hl.1 rfl (lv_room (Nat.le_of_ble_eq_true rfl)) d_C_codewordOf_7 ⟨Nat.zero_le _, Nat.zero_le _⟩) (fun zz hz => ?_)
  subst hz
  refine lv_ior hx hb d_C_codewordOf_10 ?_
  exact W.iret hx hb hr (fun t ht hW => ⟨_, rfl, (Option.some.inj hF).symm, ht⟩) (fun q h => by cases h) d_C_codewordOf_11
abbrev rm_C_dataOf : Room := { frames := 0, cells := 0, slots := 0, locals := 0 }
set_option maxHeartbeats 4000000 in
set_option maxRecDepth 100000 in
theorem c_C_dataOf (l : Launch) (a1 : Int32) (r : Int32)  (hF : f_C_dataOf a1 = some r) : Met l y_C_dataOf ws_C_dataOf rm_C_dataOf (va_Pc [.int a1] (fun _ => True)) (vp_Si (fun z => r = z)) 0 0 (fun _ => False) := by
  refine Met.ofW (cc := b_C_dataOf) (maxL := 1) (ret := some .int) (by decide +kernel) rfl ?_
  intro p e s m args below meth c s₁ B hml hv
  obtain ⟨hargs, -⟩ := hv
  have hx := B.exec
  have hb := B.bytes
  have hr := B.returns
  have hts := atoms_spec (ws := ws_C_dataOf) B.pre
  have hown : s.vm.findClass "FlashStore$Code" = some m.cls := findClass_of_methodNamed B.named
  have hlocks := B.notSynchronized
  have hl := lv_entry ([.int a1]) (n := 1) (Nat.le_of_ble_eq_true rfl)
  have hen : entryFrame m args 1 = _ := (congrArg (fun z => entryFrame m z 1) hargs).trans (lg_entry_eq m ([.int a1]) 1)
  refine W.eq hen ?_
  clear hen
  generalize (lg_sl ([.int a1]) ++ List.replicate (1 - (lg_sl ([.int a1])).length) Slot.unset).toArray = ls at hl ⊢
  have hl : lv_has ls 1 [(0, .int a1)] := hl
  have hF : (some ((a1.toUInt32 >>> ((15 : Int32).toUInt32 &&& Int32.toUInt32 31)).toInt32)) = some r := hF
  refine lv_iload_n hx hb d_C_dataOf_0 rfl (lv_at hl 0 rfl) ?_
  refine lv_bipush (v := (15 : Int32)) hx hb d_C_dataOf_1 (by decide) ?_
  refine lv_iushr hx hb d_C_dataOf_3 rfl ?_
  exact W.iret hx hb hr (fun t ht hW => ⟨_, rfl, (Option.some.inj hF).symm, ht⟩) (fun q h => by cases h) d_C_dataOf_4
abbrev rm_C_timesX : Room := { frames := 0, cells := 0, slots := 0, locals := 0 }
set_option maxHeartbeats 4000000 in
set_option maxRecDepth 100000 in
theorem c_C_timesX (l : Launch) (a1 : Int32) (r : Int32)  (hF : f_C_timesX a1 = some r) : Met l y_C_timesX ws_C_timesX rm_C_timesX (va_Pc [.int a1] (fun _ => True)) (vp_Si (fun z => r = z)) 0 0 (fun _ => False) := by
  refine Met.ofW (cc := b_C_timesX) (maxL := 2) (ret := some .int) (by decide +kernel) rfl ?_
  intro p e s m args below meth c s₁ B hml hv
  obtain ⟨hargs, -⟩ := hv
  have hx := B.exec
  have hb := B.bytes
  have hr := B.returns
  have hts := atoms_spec (ws := ws_C_timesX) B.pre
  have hown : s.vm.findClass "FlashStore$Code" = some m.cls := findClass_of_methodNamed B.named
  have hlocks := B.notSynchronized
  have w0 := hts (.constant "FlashStore$Code" 29 (32768 : Int32)) (by decide +kernel)
  have w1 := hts (.constant "FlashStore$Code" 30 (36783 : Int32)) (by decide +kernel)
  have hl := lv_entry ([.int a1]) (n := 2) (Nat.le_of_ble_eq_true rfl)
  have hen : entryFrame m args 2 = _ := (congrArg (fun z => entryFrame m z 2) hargs).trans (lg_entry_eq m ([.int a1]) 2)
  refine W.eq hen ?_
  clear hen
  generalize (lg_sl ([.int a1]) ++ List.replicate (2 - (lg_sl ([.int a1])).length) Slot.unset).toArray = ls at hl ⊢
  have hl : lv_has ls 2 [(0, .int a1)] := hl
  have J19 : ∀ (ls : Array Slot) (z0 : Int32), lv_has ls 2 [] → f_C_timesX_J19 z0 = some r → W p l e (headSpec ws_C_timesX rm_C_timesX).room s m args below meth c s.heap [] 0 0 (MQ below (vp_Si (fun z => r = z)) args s 0 0 (fun _ => False)) (F0 m 19 ls [.int z0]) := by
    intro ls z0 hl hF
    have hF : (some z0) = some r := hF
    exact W.iret hx hb hr (fun t ht hW => ⟨_, rfl, (Option.some.inj hF).symm, ht⟩) (fun q h => by cases h) d_C_timesX_19
  have hF : (if ((a1 <<< ((1 : Int32) &&& 31)) &&& (32768 : Int32)) = 0 then (f_C_timesX_J19 (a1 <<< ((1 : Int32) &&& 31))) else (f_C_timesX_J19 ((a1 <<< ((1 : Int32) &&& 31)) ^^^ (36783 : Int32)))) = some r := hF
  refine lv_iload_n hx hb d_C_timesX_0 rfl (lv_at hl 0 rfl) ?_
  refine lv_iconst (v := (1 : Int32)) hx hb d_C_timesX_1 (by decide) ?_
  refine lv_ishl hx hb d_C_timesX_2 ?_
  refine lv_istore_n hx hb d_C_timesX_3 rfl hl (by decide) rfl (fun ls hl => ?_)
  have hl : lv_has ls 2 [(1, .int (a1 <<< ((1 : Int32) &&& 31))), (0, .int a1)] := hl
  refine lv_iload_n hx hb d_C_timesX_4 rfl (lv_at hl 0 rfl) ?_
  refine lv_ldc hx hb hown w0 d_C_timesX_5 ?_
  refine lv_iand hx hb d_C_timesX_7 ?_
  refine lv_if_eq hx hb d_C_timesX_8 (tgt := 18) (by decide) (fun h8 => ?_) (fun h8 => ?_)
  · have hF := tx_t h8 hF
    refine lv_iload_n hx hb d_C_timesX_18 rfl (lv_at hl 0 rfl) ?_
    exact J19 _ (a1 <<< ((1 : Int32) &&& 31)) (lv_sub hl [] rfl) hF
  · have hF := tx_f h8 hF
    refine lv_iload_n hx hb d_C_timesX_11 rfl (lv_at hl 0 rfl) ?_
    refine lv_ldc hx hb hown w1 d_C_timesX_12 ?_
    refine lv_ixor hx hb d_C_timesX_14 ?_
    refine lv_goto hx hb d_C_timesX_15 (tgt := 19) (by decide) ?_
    exact J19 _ ((a1 <<< ((1 : Int32) &&& 31)) ^^^ (36783 : Int32)) (lv_sub hl [] rfl) hF
abbrev rm_C_turned : Room := { frames := 0, cells := 0, slots := 0, locals := 0 }
set_option maxHeartbeats 4000000 in
set_option maxRecDepth 100000 in
theorem c_C_turned (l : Launch) (a1 : Int32) (a2 : Int32) (r : Int32)  (hF : f_C_turned a1 a2 = some r) : Met l y_C_turned ws_C_turned rm_C_turned (va_Pc [.int a1, .int a2] (fun _ => True)) (vp_Si (fun z => r = z)) 0 0 (fun _ => False) := by
  refine Met.ofW (cc := b_C_turned) (maxL := 2) (ret := some .int) (by decide +kernel) rfl ?_
  intro p e s m args below meth c s₁ B hml hv
  obtain ⟨hargs, -⟩ := hv
  have hx := B.exec
  have hb := B.bytes
  have hr := B.returns
  have hts := atoms_spec (ws := ws_C_turned) B.pre
  have hown : s.vm.findClass "FlashStore$Code" = some m.cls := findClass_of_methodNamed B.named
  have hlocks := B.notSynchronized
  have w0 := hts (.constant "FlashStore$Code" 28 (2147483647 : Int32)) (by decide +kernel)
  have hl := lv_entry ([.int a1, .int a2]) (n := 2) (Nat.le_of_ble_eq_true rfl)
  have hen : entryFrame m args 2 = _ := (congrArg (fun z => entryFrame m z 2) hargs).trans (lg_entry_eq m ([.int a1, .int a2]) 2)
  refine W.eq hen ?_
  clear hen
  generalize (lg_sl ([.int a1, .int a2]) ++ List.replicate (2 - (lg_sl ([.int a1, .int a2])).length) Slot.unset).toArray = ls at hl ⊢
  have hl : lv_has ls 2 [(0, .int a1), (1, .int a2)] := hl
  have hF : (some (((a1 <<< (a2 &&& 31)) ||| ((a1.toUInt32 >>> (((31 : Int32) - a2).toUInt32 &&& Int32.toUInt32 31)).toInt32)) &&& (2147483647 : Int32))) = some r := hF
  refine lv_iload_n hx hb d_C_turned_0 rfl (lv_at hl 0 rfl) ?_
  refine lv_iload_n hx hb d_C_turned_1 rfl (lv_at hl 1 rfl) ?_
  refine lv_ishl hx hb d_C_turned_2 ?_
  refine lv_iload_n hx hb d_C_turned_3 rfl (lv_at hl 0 rfl) ?_
  refine lv_bipush (v := (31 : Int32)) hx hb d_C_turned_4 (by decide) ?_
  refine lv_iload_n hx hb d_C_turned_6 rfl (lv_at hl 1 rfl) ?_
  refine lv_isub hx hb d_C_turned_7 ?_
  refine lv_iushr hx hb d_C_turned_8 rfl ?_
  refine lv_ior hx hb d_C_turned_9 ?_
  refine lv_ldc hx hb hown w0 d_C_turned_10 ?_
  refine lv_iand hx hb d_C_turned_12 ?_
  exact W.iret hx hb hr (fun t ht hW => ⟨_, rfl, (Option.some.inj hF).symm, ht⟩) (fun q h => by cases h) d_C_turned_13
abbrev rm_C_mendOneInData : Room := { frames := 1, cells := 0, slots := 0, locals := 22 }
set_option maxHeartbeats 4000000 in
set_option maxRecDepth 100000 in
theorem c_C_mendOneInData (l : Launch) (a1 : Int32) (r : Int32)  (hF : f_C_mendOneInData a1 = some r) : Met l y_C_mendOneInData ws_C_mendOneInData rm_C_mendOneInData (va_Pc [.int a1] (fun _ => True)) (vp_Si (fun z => r = z)) 0 0 (fun _ => False) := by
  refine Met.ofW (cc := b_C_mendOneInData) (maxL := 5) (ret := some .int) (by decide +kernel) rfl ?_
  intro p e s m args below meth c s₁ B hml hv
  obtain ⟨hargs, -⟩ := hv
  have hx := B.exec
  have hb := B.bytes
  have hr := B.returns
  have hts := atoms_spec (ws := ws_C_mendOneInData) B.pre
  have hown : s.vm.findClass "FlashStore$Code" = some m.cls := findClass_of_methodNamed B.named
  have hlocks := B.notSynchronized
  have hl := lv_entry ([.int a1]) (n := 5) (Nat.le_of_ble_eq_true rfl)
  have hen : entryFrame m args 5 = _ := (congrArg (fun z => entryFrame m z 5) hargs).trans (lg_entry_eq m ([.int a1]) 5)
  refine W.eq hen ?_
  clear hen
  generalize (lg_sl ([.int a1]) ++ List.replicate (5 - (lg_sl ([.int a1])).length) Slot.unset).toArray = ls at hl ⊢
  have hl : lv_has ls 5 [(0, .int a1)] := hl
  have LH : ∀ n : Nat, (∀ (ls : Array Slot) (v0 : Int32) (v1 : Int32) (v2 : Int32) (v3 : Int32), lv_has ls 5 [(0, .int v0), (1, .int v1), (2, .int v2), (3, .int v3)] → f_C_mendOneInData_H n v0 v1 v2 v3 = some r → W p l e (headSpec ws_C_mendOneInData rm_C_mendOneInData).room s m args below meth c s.heap [] 0 0 (MQ below (vp_Si (fun z => r = z)) args s 0 0 (fun _ => False)) (F0 m 24 ls [])) := by
    intro n
    induction n with
    | zero =>
      exact (by intro ls v0 v1 v2 v3 hl hF; have hF : (none : Option (Int32)) = _ := hF; cases hF)
    | succ n ih =>
      have hrec0 := ih
      intro ls v0 v1 v2 v3 hl hF
      have hF : (if (31 : Int32) ≤ v3 then (some (-1 : Int32)) else ((f_U_bitCount (v1 ^^^ v2)).bind fun r37 => if (3 : Int32) ≤ r37 then ((f_C_timesX v2).bind fun r54 => f_C_mendOneInData_H n v0 v1 r54 (v3 + (1 : Int32))) else (some ((v0 ^^^ (v1 ^^^ v2)) ^^^ ((1 : Int32) <<< (v3 &&& 31)))))) = some r := hF
      refine lv_iload_n hx hb d_C_mendOneInData_24 rfl (lv_at hl 3 rfl) ?_
      refine lv_bipush (v := (31 : Int32)) hx hb d_C_mendOneInData_25 (by decide) ?_
      refine lv_icmp_ge hx hb d_C_mendOneInData_27 (tgt := 64) (by decide) (fun h27 => ?_) (fun h27 => ?_)
      · have hF := tx_t h27 hF
        refine lv_iconst (v := (-1 : Int32)) hx hb d_C_mendOneInData_64 (by decide) ?_
        exact W.iret hx hb hr (fun t ht hW => ⟨_, rfl, (Option.some.inj hF).symm, ht⟩) (fun q h => by cases h) d_C_mendOneInData_65
      · have hF := tx_f h27 hF
        refine lv_iload_n hx hb d_C_mendOneInData_30 rfl (lv_at hl 1 rfl) ?_
        refine lv_iload_n hx hb d_C_mendOneInData_31 rfl (lv_at hl 2 rfl) ?_
        refine lv_ixor hx hb d_C_mendOneInData_32 ?_
        refine lv_istore hx hb d_C_mendOneInData_33 hl (by decide) rfl (fun ls hl => ?_)
        have hl : lv_has ls 5 [(4, .int (v1 ^^^ v2)), (0, .int v0), (1, .int v1), (2, .int v2), (3, .int v3)] := hl
        refine lv_iload hx hb d_C_mendOneInData_35 (lv_at hl 0 rfl) ?_
        obtain ⟨r37, hc37, hF⟩ := tx_b hF
        refine vp_callSi (W.runS (As := [.int (v1 ^^^ v2)]) (rest := []) ⟨hx, hb, hml, hown, hts⟩ (c_U_bitCount l (v1 ^^^ v2) r37 hc37) (va_cwS 1 hts (tg_S bq_1_90 bq_1_91 bq_1_10 bq_1_92) rfl rfl rfl (by decide +kernel) ⟨Nat.le_of_ble_eq_true rfl, Nat.le_of_ble_eq_true rfl⟩) ⟨tx_bl0, tx_pre0⟩ rfl rfl hl.1 rfl (lv_room (Nat.le_of_ble_eq_true rfl)) d_C_mendOneInData_37 ⟨Nat.zero_le _, Nat.zero_le _⟩) (fun zz hz => ?_)
        subst hz
        refine lv_iconst (v := (3 : Int32)) hx hb d_C_mendOneInData_40 (by decide) ?_
        refine lv_icmp_ge hx hb d_C_mendOneInData_41 (tgt := 53) (by decide) (fun h41 => ?_) (fun h41 => ?_)
        · have hF := tx_t h41 hF
          refine lv_iload_n hx hb d_C_mendOneInData_53 rfl (lv_at hl 3 rfl) ?_
          obtain ⟨r54, hc54, hF⟩ := tx_b hF
          refine vp_callSi (W.runS (As := [.int v2]) (rest := []) ⟨hx, hb, hml, hown, hts⟩ (c_C_timesX l v2 r54 hc54) (va_cwS 1 hts (tg_S bq_1_96 bq_1_97 bq_1_9 bq_1_98) rfl rfl rfl (by decide +kernel) ⟨Nat.le_of_ble_eq_true rfl, Nat.le_of_ble_eq_true rfl⟩) ⟨tx_bl0, tx_pre0⟩ rfl rfl hl.1 rfl (lv_room (Nat.le_of_ble_eq_true rfl)) d_C_mendOneInData_54 ⟨Nat.zero_le _, Nat.zero_le _⟩) (fun zz hz => ?_)
          subst hz
          refine lv_istore_n hx hb d_C_mendOneInData_57 rfl hl (by decide) rfl (fun ls hl => ?_)
          have hl : lv_has ls 5 [(2, .int r54), (4, .int (v1 ^^^ v2)), (0, .int v0), (1, .int v1), (3, .int v3)] := hl
          refine lv_iinc (k := 4) (v := (v3 + (1 : Int32))) hx hb d_C_mendOneInData_58 hl rfl rfl (by decide) rfl (fun ls hl => ?_)
          have hl : lv_has ls 5 [(3, .int (v3 + (1 : Int32))), (2, .int r54), (4, .int (v1 ^^^ v2)), (0, .int v0), (1, .int v1)] := hl
          refine lv_goto hx hb d_C_mendOneInData_61 (tgt := 24) (by decide) ?_
          exact hrec0 _ v0 v1 r54 (v3 + (1 : Int32)) (lv_sub hl [3, 4, 1, 0] rfl) hF
        · have hF := tx_f h41 hF
          refine lv_iload_n hx hb d_C_mendOneInData_44 rfl (lv_at hl 1 rfl) ?_
          refine lv_iload hx hb d_C_mendOneInData_45 (lv_at hl 0 rfl) ?_
          refine lv_ixor hx hb d_C_mendOneInData_47 ?_
          refine lv_iconst (v := (1 : Int32)) hx hb d_C_mendOneInData_48 (by decide) ?_
          refine lv_iload_n hx hb d_C_mendOneInData_49 rfl (lv_at hl 4 rfl) ?_
          refine lv_ishl hx hb d_C_mendOneInData_50 ?_
          refine lv_ixor hx hb d_C_mendOneInData_51 ?_
          exact W.iret hx hb hr (fun t ht hW => ⟨_, rfl, (Option.some.inj hF).symm, ht⟩) (fun q h => by cases h) d_C_mendOneInData_52
  obtain hrec0 := LH 100
  have hF : ((f_C_remainder a1).bind fun r1 => (f_U_bitCount r1).bind fun r6 => if (3 : Int32) < r6 then (f_C_mendOneInData_H 100 a1 r1 (4015 : Int32) (15 : Int32)) else (some (a1 ^^^ r1))) = some r := hF
  refine lv_iload_n hx hb d_C_mendOneInData_0 rfl (lv_at hl 0 rfl) ?_
  obtain ⟨r1, hc1, hF⟩ := tx_b hF
  refine vp_callSi (W.runS (As := [.int a1]) (rest := []) ⟨hx, hb, hml, hown, hts⟩ (c_C_remainder l a1 r1 hc1) (va_cwS 1 hts (tg_S bq_1_86 bq_1_87 bq_1_9 bq_1_88) rfl rfl rfl (by decide +kernel) ⟨Nat.le_of_ble_eq_true rfl, Nat.le_of_ble_eq_true rfl⟩) ⟨tx_bl0, tx_pre0⟩ rfl rfl hl.1 rfl (lv_room (Nat.le_of_ble_eq_true rfl)) d_C_mendOneInData_1 ⟨Nat.zero_le _, Nat.zero_le _⟩) (fun zz hz => ?_)
  subst hz
  refine lv_istore_n hx hb d_C_mendOneInData_4 rfl hl (by decide) rfl (fun ls hl => ?_)
  have hl : lv_has ls 5 [(1, .int r1), (0, .int a1)] := hl
  refine lv_iload_n hx hb d_C_mendOneInData_5 rfl (lv_at hl 0 rfl) ?_
  obtain ⟨r6, hc6, hF⟩ := tx_b hF
  refine vp_callSi (W.runS (As := [.int r1]) (rest := []) ⟨hx, hb, hml, hown, hts⟩ (c_U_bitCount l r1 r6 hc6) (va_cwS 1 hts (tg_S bq_1_90 bq_1_91 bq_1_10 bq_1_92) rfl rfl rfl (by decide +kernel) ⟨Nat.le_of_ble_eq_true rfl, Nat.le_of_ble_eq_true rfl⟩) ⟨tx_bl0, tx_pre0⟩ rfl rfl hl.1 rfl (lv_room (Nat.le_of_ble_eq_true rfl)) d_C_mendOneInData_6 ⟨Nat.zero_le _, Nat.zero_le _⟩) (fun zz hz => ?_)
  subst hz
  refine lv_iconst (v := (3 : Int32)) hx hb d_C_mendOneInData_9 (by decide) ?_
  refine lv_icmp_gt hx hb d_C_mendOneInData_10 (tgt := 17) (by decide) (fun h10 => ?_) (fun h10 => ?_)
  · have hF := tx_t h10 hF
    refine lv_sipush (v := (4015 : Int32)) hx hb d_C_mendOneInData_17 (by decide) ?_
    refine lv_istore_n hx hb d_C_mendOneInData_20 rfl hl (by decide) rfl (fun ls hl => ?_)
    have hl : lv_has ls 5 [(2, .int (4015 : Int32)), (1, .int r1), (0, .int a1)] := hl
    refine lv_bipush (v := (15 : Int32)) hx hb d_C_mendOneInData_21 (by decide) ?_
    refine lv_istore_n hx hb d_C_mendOneInData_23 rfl hl (by decide) rfl (fun ls hl => ?_)
    have hl : lv_has ls 5 [(3, .int (15 : Int32)), (2, .int (4015 : Int32)), (1, .int r1), (0, .int a1)] := hl
    exact hrec0 _ a1 r1 (4015 : Int32) (15 : Int32) (lv_sub hl [3, 2, 1, 0] rfl) hF
  · have hF := tx_f h10 hF
    refine lv_iload_n hx hb d_C_mendOneInData_13 rfl (lv_at hl 1 rfl) ?_
    refine lv_iload_n hx hb d_C_mendOneInData_14 rfl (lv_at hl 0 rfl) ?_
    refine lv_ixor hx hb d_C_mendOneInData_15 ?_
    exact W.iret hx hb hr (fun t ht hW => ⟨_, rfl, (Option.some.inj hF).symm, ht⟩) (fun q h => by cases h) d_C_mendOneInData_16
abbrev rm_C_mend : Room := { frames := 2, cells := 0, slots := 0, locals := 46 }
set_option maxHeartbeats 4000000 in
set_option maxRecDepth 100000 in
theorem c_C_mend (l : Launch) (a1 : Int32) (r : Int32)  (hF : f_C_mend a1 = some r) : Met l y_C_mend ws_C_mend rm_C_mend (va_Pc [.int a1] (fun _ => True)) (vp_Si (fun z => r = z)) 0 0 (fun _ => False) := by
  refine Met.ofW (cc := b_C_mend) (maxL := 3) (ret := some .int) (by decide +kernel) rfl ?_
  intro p e s m args below meth c s₁ B hml hv
  obtain ⟨hargs, -⟩ := hv
  have hx := B.exec
  have hb := B.bytes
  have hr := B.returns
  have hts := atoms_spec (ws := ws_C_mend) B.pre
  have hown : s.vm.findClass "FlashStore$Code" = some m.cls := findClass_of_methodNamed B.named
  have hlocks := B.notSynchronized
  have hl := lv_entry ([.int a1]) (n := 3) (Nat.le_of_ble_eq_true rfl)
  have hen : entryFrame m args 3 = _ := (congrArg (fun z => entryFrame m z 3) hargs).trans (lg_entry_eq m ([.int a1]) 3)
  refine W.eq hen ?_
  clear hen
  generalize (lg_sl ([.int a1]) ++ List.replicate (3 - (lg_sl ([.int a1])).length) Slot.unset).toArray = ls at hl ⊢
  have hl : lv_has ls 3 [(0, .int a1)] := hl
  have LH : ∀ n : Nat, (∀ (ls : Array Slot) (v0 : Int32) (v1 : Int32), lv_has ls 3 [(0, .int v0), (1, .int v1)] → f_C_mend_H n v0 v1 = some r → W p l e (headSpec ws_C_mend rm_C_mend).room s m args below meth c s.heap [] 0 0 (MQ below (vp_Si (fun z => r = z)) args s 0 0 (fun _ => False)) (F0 m 2 ls [])) := by
    intro n
    induction n with
    | zero =>
      exact (by intro ls v0 v1 hl hF; have hF : (none : Option (Int32)) = _ := hF; cases hF)
    | succ n ih =>
      have hrec0 := ih
      intro ls v0 v1 hl hF
      have hF : (if (31 : Int32) ≤ v1 then (some (-1 : Int32)) else ((f_C_turned v0 v1).bind fun r10 => (f_C_mendOneInData r10).bind fun r13 => if r13 = (-1 : Int32) then (f_C_mend_H n v0 (v1 + (5 : Int32))) else ((f_C_turned r13 ((31 : Int32) - v1)).bind fun r27 => some r27))) = some r := hF
      refine lv_iload_n hx hb d_C_mend_2 rfl (lv_at hl 1 rfl) ?_
      refine lv_bipush (v := (31 : Int32)) hx hb d_C_mend_3 (by decide) ?_
      refine lv_icmp_ge hx hb d_C_mend_5 (tgt := 37) (by decide) (fun h5 => ?_) (fun h5 => ?_)
      · have hF := tx_t h5 hF
        refine lv_iconst (v := (-1 : Int32)) hx hb d_C_mend_37 (by decide) ?_
        exact W.iret hx hb hr (fun t ht hW => ⟨_, rfl, (Option.some.inj hF).symm, ht⟩) (fun q h => by cases h) d_C_mend_38
      · have hF := tx_f h5 hF
        refine lv_iload_n hx hb d_C_mend_8 rfl (lv_at hl 0 rfl) ?_
        refine lv_iload_n hx hb d_C_mend_9 rfl (lv_at hl 1 rfl) ?_
        obtain ⟨r10, hc10, hF⟩ := tx_b hF
        refine vp_callSi (W.runS (As := [.int v0, .int v1]) (rest := []) ⟨hx, hb, hml, hown, hts⟩ (c_C_turned l v0 v1 r10 hc10) (va_cwS 2 hts (tg_S bq_1_79 bq_1_80 bq_1_9 bq_1_81) rfl rfl rfl (by decide +kernel) ⟨Nat.le_of_ble_eq_true rfl, Nat.le_of_ble_eq_true rfl⟩) ⟨tx_bl0, tx_pre0⟩ rfl rfl hl.1 rfl (lv_room (Nat.le_of_ble_eq_true rfl)) d_C_mend_10 ⟨Nat.zero_le _, Nat.zero_le _⟩) (fun zz hz => ?_)
        subst hz
        obtain ⟨r13, hc13, hF⟩ := tx_b hF
        refine vp_callSi (W.runS (As := [.int r10]) (rest := []) ⟨hx, hb, hml, hown, hts⟩ (c_C_mendOneInData l r10 r13 hc13) (va_cwS 1 hts (tg_S bq_1_83 bq_1_84 bq_1_9 bq_1_85) rfl rfl rfl (by decide +kernel) ⟨Nat.le_of_ble_eq_true rfl, Nat.le_of_ble_eq_true rfl⟩) ⟨tx_bl0, tx_pre0⟩ rfl rfl hl.1 rfl (lv_room (Nat.le_of_ble_eq_true rfl)) d_C_mend_13 ⟨Nat.zero_le _, Nat.zero_le _⟩) (fun zz hz => ?_)
        subst hz
        refine lv_istore_n hx hb d_C_mend_16 rfl hl (by decide) rfl (fun ls hl => ?_)
        have hl : lv_has ls 3 [(2, .int r13), (0, .int v0), (1, .int v1)] := hl
        refine lv_iload_n hx hb d_C_mend_17 rfl (lv_at hl 0 rfl) ?_
        refine lv_iconst (v := (-1 : Int32)) hx hb d_C_mend_18 (by decide) ?_
        refine lv_icmp_eq hx hb d_C_mend_19 (tgt := 31) (by decide) (fun h19 => ?_) (fun h19 => ?_)
        · have hF := tx_t h19 hF
          refine lv_iinc (k := 2) (v := (v1 + (5 : Int32))) hx hb d_C_mend_31 hl rfl rfl (by decide) rfl (fun ls hl => ?_)
          have hl : lv_has ls 3 [(1, .int (v1 + (5 : Int32))), (2, .int r13), (0, .int v0)] := hl
          refine lv_goto hx hb d_C_mend_34 (tgt := 2) (by decide) ?_
          exact hrec0 _ v0 (v1 + (5 : Int32)) (lv_sub hl [2, 0] rfl) hF
        · have hF := tx_f h19 hF
          refine lv_iload_n hx hb d_C_mend_22 rfl (lv_at hl 0 rfl) ?_
          refine lv_bipush (v := (31 : Int32)) hx hb d_C_mend_23 (by decide) ?_
          refine lv_iload_n hx hb d_C_mend_25 rfl (lv_at hl 2 rfl) ?_
          refine lv_isub hx hb d_C_mend_26 ?_
          obtain ⟨r27, hc27, hF⟩ := tx_b hF
          refine vp_callSi (W.runS (As := [.int r13, .int ((31 : Int32) - v1)]) (rest := []) ⟨hx, hb, hml, hown, hts⟩ (c_C_turned l r13 ((31 : Int32) - v1) r27 hc27) (va_cwS 2 hts (tg_S bq_1_79 bq_1_80 bq_1_9 bq_1_81) rfl rfl rfl (by decide +kernel) ⟨Nat.le_of_ble_eq_true rfl, Nat.le_of_ble_eq_true rfl⟩) ⟨tx_bl0, tx_pre0⟩ rfl rfl hl.1 rfl (lv_room (Nat.le_of_ble_eq_true rfl)) d_C_mend_27 ⟨Nat.zero_le _, Nat.zero_le _⟩) (fun zz hz => ?_)
          subst hz
          exact W.iret hx hb hr (fun t ht hW => ⟨_, rfl, (Option.some.inj hF).symm, ht⟩) (fun q h => by cases h) d_C_mend_30
  obtain hrec0 := LH 100
  have hF : (f_C_mend_H 100 a1 (0 : Int32)) = some r := hF
  refine lv_iconst (v := (0 : Int32)) hx hb d_C_mend_0 (by decide) ?_
  refine lv_istore_n hx hb d_C_mend_1 rfl hl (by decide) rfl (fun ls hl => ?_)
  have hl : lv_has ls 3 [(1, .int (0 : Int32)), (0, .int a1)] := hl
  exact hrec0 _ a1 (0 : Int32) (lv_sub hl [1, 0] rfl) hF
