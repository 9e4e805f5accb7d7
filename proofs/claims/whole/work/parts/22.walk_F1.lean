abbrev rm_F_blockOf : Room := { frames := 0, cells := 0, slots := 0, locals := 0 }
set_option maxHeartbeats 4000000 in
set_option maxRecDepth 100000 in
theorem c_F_blockOf (l : Launch) (a1 : Int32) (r : Int32)  (hF : f_F_blockOf a1 = some r) : Met l y_F_blockOf ws_F_blockOf rm_F_blockOf (va_Pc [.int a1] (fun _ => True)) (vp_Si (fun z => r = z)) 0 0 (fun _ => False) := by
  refine Met.ofW (cc := b_F_blockOf) (maxL := 1) (ret := some .int) (by decide +kernel) rfl ?_
  intro p e s m args below meth c s₁ B hml hv
  obtain ⟨hargs, -⟩ := hv
  have hx := B.exec
  have hb := B.bytes
  have hr := B.returns
  have hts := atoms_spec (ws := ws_F_blockOf) B.pre
  have hown : s.vm.findClass "FlashStore" = some m.cls := findClass_of_methodNamed B.named
  have hlocks := B.notSynchronized
  have hl := lv_entry ([.int a1]) (n := 1) (Nat.le_of_ble_eq_true rfl)
  have hen : entryFrame m args 1 = _ := (congrArg (fun z => entryFrame m z 1) hargs).trans (lg_entry_eq m ([.int a1]) 1)
  refine W.eq hen ?_
  clear hen
  generalize (lg_sl ([.int a1]) ++ List.replicate (1 - (lg_sl ([.int a1])).length) Slot.unset).toArray = ls at hl ⊢
  have hl : lv_has ls 1 [(0, .int a1)] := hl
  have hF : (some (a1 / (4 : Int32))) = some r := hF
  refine lv_iload_n hx hb d_F_blockOf_0 rfl (lv_at hl 0 rfl) ?_
  refine lv_iconst (v := (4 : Int32)) hx hb d_F_blockOf_1 (by decide) ?_
  refine lv_idiv hx hb d_F_blockOf_2 (by decide) ?_
  exact W.iret hx hb hr (fun t ht hW => ⟨_, rfl, (Option.some.inj hF).symm, ht⟩) (fun q h => by cases h) d_F_blockOf_3
abbrev rm_F_isSpoilt : Room := { frames := 0, cells := 0, slots := 0, locals := 0 }
set_option maxHeartbeats 4000000 in
set_option maxRecDepth 100000 in
theorem c_F_isSpoilt (l : Launch) (a1 : Int32) (r : Int32)  (hF : f_F_isSpoilt a1 = some r) : Met l y_F_isSpoilt ws_F_isSpoilt rm_F_isSpoilt (va_Pc [.int a1] (fun _ => True)) (vp_Si (fun z => r = z)) 0 0 (fun _ => False) := by
  refine Met.ofW (cc := b_F_isSpoilt) (maxL := 1) (ret := some .boolean) (by decide +kernel) rfl ?_
  intro p e s m args below meth c s₁ B hml hv
  obtain ⟨hargs, -⟩ := hv
  have hx := B.exec
  have hb := B.bytes
  have hr := B.returns
  have hts := atoms_spec (ws := ws_F_isSpoilt) B.pre
  have hown : s.vm.findClass "FlashStore" = some m.cls := findClass_of_methodNamed B.named
  have hlocks := B.notSynchronized
  have hl := lv_entry ([.int a1]) (n := 1) (Nat.le_of_ble_eq_true rfl)
  have hen : entryFrame m args 1 = _ := (congrArg (fun z => entryFrame m z 1) hargs).trans (lg_entry_eq m ([.int a1]) 1)
  refine W.eq hen ?_
  clear hen
  generalize (lg_sl ([.int a1]) ++ List.replicate (1 - (lg_sl ([.int a1])).length) Slot.unset).toArray = ls at hl ⊢
  have hl : lv_has ls 1 [(0, .int a1)] := hl
  have J19 : ∀ (ls : Array Slot) (z0 : Int32), lv_has ls 1 [] → f_F_isSpoilt_J19 z0 = some r → W p l e (headSpec ws_F_isSpoilt rm_F_isSpoilt).room s m args below meth c s.heap [] 0 0 (MQ below (vp_Si (fun z => r = z)) args s 0 0 (fun _ => False)) (F0 m 19 ls [.int z0]) := by
    intro ls z0 hl hF
    have hF : (if ¬ (z0 = 0 ∨ z0 = 1) then none else some z0) = some r := hF
    obtain ⟨hz, hF⟩ := tx_g hF
    have hz := Classical.not_not.mp hz
    exact W.zret hx hb hr (tx_z hz) (fun t ht hW => ⟨_, rfl, (Option.some.inj hF).symm, ht⟩) (fun q h => by cases h) d_F_isSpoilt_19
  have J14 : ∀ (ls : Array Slot), lv_has ls 1 [] → f_F_isSpoilt_J14  = some r → W p l e (headSpec ws_F_isSpoilt rm_F_isSpoilt).room s m args below meth c s.heap [] 0 0 (MQ below (vp_Si (fun z => r = z)) args s 0 0 (fun _ => False)) (F0 m 14 ls []) := by
    intro ls hl hF
    have hF : (f_F_isSpoilt_J19 (1 : Int32)) = some r := hF
    refine lv_iconst (v := (1 : Int32)) hx hb d_F_isSpoilt_14 (by decide) ?_
    refine lv_goto hx hb d_F_isSpoilt_15 (tgt := 19) (by decide) ?_
    exact J19 _ (1 : Int32) hl hF
  have hF : (if a1 = (-1 : Int32) then (f_F_isSpoilt_J14 ) else (if ((a1.toUInt32 >>> ((12 : Int32).toUInt32 &&& Int32.toUInt32 31)).toInt32) < (8 : Int32) then (f_F_isSpoilt_J19 (0 : Int32)) else (f_F_isSpoilt_J14 ))) = some r := hF
  refine lv_iload_n hx hb d_F_isSpoilt_0 rfl (lv_at hl 0 rfl) ?_
  refine lv_iconst (v := (-1 : Int32)) hx hb d_F_isSpoilt_1 (by decide) ?_
  refine lv_icmp_eq hx hb d_F_isSpoilt_2 (tgt := 14) (by decide) (fun h2 => ?_) (fun h2 => ?_)
  · have hF := tx_t h2 hF
    exact J14 _ (lv_sub hl [] rfl) hF
  · have hF := tx_f h2 hF
    refine lv_iload_n hx hb d_F_isSpoilt_5 rfl (lv_at hl 0 rfl) ?_
    refine lv_bipush (v := (12 : Int32)) hx hb d_F_isSpoilt_6 (by decide) ?_
    refine lv_iushr hx hb d_F_isSpoilt_8 rfl ?_
    refine lv_bipush (v := (8 : Int32)) hx hb d_F_isSpoilt_9 (by decide) ?_
    refine lv_icmp_lt hx hb d_F_isSpoilt_11 (tgt := 18) (by decide) (fun h11 => ?_) (fun h11 => ?_)
    · have hF := tx_t h11 hF
      refine lv_iconst (v := (0 : Int32)) hx hb d_F_isSpoilt_18 (by decide) ?_
      exact J19 _ (0 : Int32) (lv_sub hl [] rfl) hF
    · have hF := tx_f h11 hF
      exact J14 _ (lv_sub hl [] rfl) hF
abbrev rm_F_isNewer : Room := { frames := 1, cells := 0, slots := 0, locals := 22 }
set_option maxHeartbeats 4000000 in
set_option maxRecDepth 100000 in
theorem c_F_isNewer (l : Launch) (a1 : Int32) (a2 : Int32) (r : Int32)  (hF : f_F_isNewer a1 a2 = some r) : Met l y_F_isNewer ws_F_isNewer rm_F_isNewer (va_Pc [.int a1, .int a2] (fun _ => True)) (vp_Si (fun z => r = z)) 0 0 (fun _ => False) := by
  refine Met.ofW (cc := b_F_isNewer) (maxL := 3) (ret := some .boolean) (by decide +kernel) rfl ?_
  intro p e s m args below meth c s₁ B hml hv
  obtain ⟨hargs, -⟩ := hv
  have hx := B.exec
  have hb := B.bytes
  have hr := B.returns
  have hts := atoms_spec (ws := ws_F_isNewer) B.pre
  have hown : s.vm.findClass "FlashStore" = some m.cls := findClass_of_methodNamed B.named
  have hlocks := B.notSynchronized
  have hl := lv_entry ([.int a1, .int a2]) (n := 3) (Nat.le_of_ble_eq_true rfl)
  have hen : entryFrame m args 3 = _ := (congrArg (fun z => entryFrame m z 3) hargs).trans (lg_entry_eq m ([.int a1, .int a2]) 3)
  refine W.eq hen ?_
  clear hen
  generalize (lg_sl ([.int a1, .int a2]) ++ List.replicate (3 - (lg_sl ([.int a1, .int a2])).length) Slot.unset).toArray = ls at hl ⊢
  have hl : lv_has ls 3 [(0, .int a1), (1, .int a2)] := hl
  have J27 : ∀ (ls : Array Slot) (z0 : Int32), lv_has ls 3 [] → f_F_isNewer_J27 z0 = some r → W p l e (headSpec ws_F_isNewer rm_F_isNewer).room s m args below meth c s.heap [] 0 0 (MQ below (vp_Si (fun z => r = z)) args s 0 0 (fun _ => False)) (F0 m 27 ls [.int z0]) := by
    intro ls z0 hl hF
    have hF : (if ¬ (z0 = 0 ∨ z0 = 1) then none else some z0) = some r := hF
    obtain ⟨hz, hF⟩ := tx_g hF
    have hz := Classical.not_not.mp hz
    exact W.zret hx hb hr (tx_z hz) (fun t ht hW => ⟨_, rfl, (Option.some.inj hF).symm, ht⟩) (fun q h => by cases h) d_F_isNewer_27
  have J26 : ∀ (ls : Array Slot), lv_has ls 3 [] → f_F_isNewer_J26  = some r → W p l e (headSpec ws_F_isNewer rm_F_isNewer).room s m args below meth c s.heap [] 0 0 (MQ below (vp_Si (fun z => r = z)) args s 0 0 (fun _ => False)) (F0 m 26 ls []) := by
    intro ls hl hF
    have hF : (f_F_isNewer_J27 (0 : Int32)) = some r := hF
    refine lv_iconst (v := (0 : Int32)) hx hb d_F_isNewer_26 (by decide) ?_
    exact J27 _ (0 : Int32) hl hF
  have hF : ((f_U_floorMod (a1 - a2) (4095 : Int32)).bind fun r6 => if r6 < (1 : Int32) then (f_F_isNewer_J26 ) else (if (2000 : Int32) < r6 then (f_F_isNewer_J26 ) else (f_F_isNewer_J27 (1 : Int32)))) = some r := hF
  refine lv_iload_n hx hb d_F_isNewer_0 rfl (lv_at hl 0 rfl) ?_
  refine lv_iload_n hx hb d_F_isNewer_1 rfl (lv_at hl 1 rfl) ?_
  refine lv_isub hx hb d_F_isNewer_2 ?_
  refine lv_sipush (v := (4095 : Int32)) hx hb d_F_isNewer_3 (by decide) ?_
  obtain ⟨r6, hc6, hF⟩ := tx_b hF
  refine vp_callSi (W.runS (As := [.int (a1 - a2), .int (4095 : Int32)]) (rest := []) ⟨hx, hb, hml, hown, hts⟩ (c_U_floorMod l (a1 - a2) (4095 : Int32) r6 hc6) (va_cwS 2 hts (tg_S bq_1_114 bq_1_115 bq_1_13 bq_1_116) rfl rfl rfl (by decide +kernel) ⟨Nat.le_of_ble_eq_true rfl, Nat.le_of_ble_eq_true rfl⟩) ⟨tx_bl0, tx_pre0⟩ rfl rfl hl.1 rfl (lv_room (Nat.le_of_ble_eq_true rfl)) d_F_isNewer_6 ⟨Nat.zero_le _, Nat.zero_le _⟩) (fun zz hz => ?_)
  subst hz
  refine lv_istore_n hx hb d_F_isNewer_9 rfl hl (by decide) rfl (fun ls hl => ?_)
  have hl : lv_has ls 3 [(2, .int r6), (0, .int a1), (1, .int a2)] := hl
  refine lv_iload_n hx hb d_F_isNewer_10 rfl (lv_at hl 0 rfl) ?_
  refine lv_iconst (v := (1 : Int32)) hx hb d_F_isNewer_11 (by decide) ?_
  refine lv_icmp_lt hx hb d_F_isNewer_12 (tgt := 26) (by decide) (fun h12 => ?_) (fun h12 => ?_)
  · have hF := tx_t h12 hF
    exact J26 _ (lv_sub hl [] rfl) hF
  · have hF := tx_f h12 hF
    refine lv_iload_n hx hb d_F_isNewer_15 rfl (lv_at hl 0 rfl) ?_
    refine lv_sipush (v := (2000 : Int32)) hx hb d_F_isNewer_16 (by decide) ?_
    refine lv_icmp_gt hx hb d_F_isNewer_19 (tgt := 26) (by decide) (fun h19 => ?_) (fun h19 => ?_)
    · have hF := tx_t h19 hF
      exact J26 _ (lv_sub hl [] rfl) hF
    · have hF := tx_f h19 hF
      refine lv_iconst (v := (1 : Int32)) hx hb d_F_isNewer_22 (by decide) ?_
      refine lv_goto hx hb d_F_isNewer_23 (tgt := 27) (by decide) ?_
      exact J27 _ (1 : Int32) (lv_sub hl [] rfl) hF
abbrev rm_F_serialBehind : Room := { frames := 0, cells := 0, slots := 0, locals := 0 }
set_option maxHeartbeats 4000000 in
set_option maxRecDepth 100000 in
theorem c_F_serialBehind (l : Launch) (a1 : Int32) (r : Int32)  (hF : f_F_serialBehind a1 = some r) : Met l y_F_serialBehind ws_F_serialBehind rm_F_serialBehind (va_Pc [.int a1] (fun _ => True)) (vp_Si (fun z => r = z)) 0 0 (fun _ => False) := by
  refine Met.ofW (cc := b_F_serialBehind) (maxL := 1) (ret := some .int) (by decide +kernel) rfl ?_
  intro p e s m args below meth c s₁ B hml hv
  obtain ⟨hargs, -⟩ := hv
  have hx := B.exec
  have hb := B.bytes
  have hr := B.returns
  have hts := atoms_spec (ws := ws_F_serialBehind) B.pre
  have hown : s.vm.findClass "FlashStore" = some m.cls := findClass_of_methodNamed B.named
  have hlocks := B.notSynchronized
  have hl := lv_entry ([.int a1]) (n := 1) (Nat.le_of_ble_eq_true rfl)
  have hen : entryFrame m args 1 = _ := (congrArg (fun z => entryFrame m z 1) hargs).trans (lg_entry_eq m ([.int a1]) 1)
  refine W.eq hen ?_
  clear hen
  generalize (lg_sl ([.int a1]) ++ List.replicate (1 - (lg_sl ([.int a1])).length) Slot.unset).toArray = ls at hl ⊢
  have hl : lv_has ls 1 [(0, .int a1)] := hl
  have hF : (some ((a1 + (1 : Int32)) - (a1 + (1 : Int32)) / (4095 : Int32) * (4095 : Int32))) = some r := hF
  refine lv_iload_n hx hb d_F_serialBehind_0 rfl (lv_at hl 0 rfl) ?_
  refine lv_iconst (v := (1 : Int32)) hx hb d_F_serialBehind_1 (by decide) ?_
  refine lv_iadd hx hb d_F_serialBehind_2 ?_
  refine lv_sipush (v := (4095 : Int32)) hx hb d_F_serialBehind_3 (by decide) ?_
  refine lv_irem hx hb d_F_serialBehind_6 (by decide) ?_
  exact W.iret hx hb hr (fun t ht hW => ⟨_, rfl, (Option.some.inj hF).symm, ht⟩) (fun q h => by cases h) d_F_serialBehind_7
abbrev rm_F_requireLogicalPage : Room := { frames := 0, cells := 0, slots := 0, locals := 0 }
set_option maxHeartbeats 4000000 in
set_option maxRecDepth 100000 in
theorem c_F_requireLogicalPage (l : Launch) (a1 : Int32)  (_u : Unit) (hF : f_F_requireLogicalPage a1 = some _u) : Met l y_F_requireLogicalPage ws_F_requireLogicalPage rm_F_requireLogicalPage (va_Pc [.int a1] (fun _ => True)) (va_Sv (fun _ => True)) 0 0 (fun _ => False) := by
  refine Met.ofW (cc := b_F_requireLogicalPage) (maxL := 1) (ret := none) (by decide +kernel) rfl ?_
  intro p e s m args below meth c s₁ B hml hv
  obtain ⟨hargs, -⟩ := hv
  have hx := B.exec
  have hb := B.bytes
  have hr := B.returns
  have hts := atoms_spec (ws := ws_F_requireLogicalPage) B.pre
  have hown : s.vm.findClass "FlashStore" = some m.cls := findClass_of_methodNamed B.named
  have hlocks := B.notSynchronized
  have hl := lv_entry ([.int a1]) (n := 1) (Nat.le_of_ble_eq_true rfl)
  have hen : entryFrame m args 1 = _ := (congrArg (fun z => entryFrame m z 1) hargs).trans (lg_entry_eq m ([.int a1]) 1)
  refine W.eq hen ?_
  clear hen
  generalize (lg_sl ([.int a1]) ++ List.replicate (1 - (lg_sl ([.int a1])).length) Slot.unset).toArray = ls at hl ⊢
  have hl : lv_has ls 1 [(0, .int a1)] := hl
  have J10 : ∀ (ls : Array Slot), lv_has ls 1 [] → f_F_requireLogicalPage_J10  = some () → W p l e (headSpec ws_F_requireLogicalPage rm_F_requireLogicalPage).room s m args below meth c s.heap [] 0 0 (MQ below (va_Sv (fun _ => True)) args s 0 0 (fun _ => False)) (F0 m 10 ls []) := by
    intro ls hl hF
    have hF : (none) = some () := hF
    cases hF
  have hF : (if a1 < 0 then (f_F_requireLogicalPage_J10 ) else (if a1 < (8 : Int32) then (some ()) else (f_F_requireLogicalPage_J10 ))) = some _u := hF
  refine lv_iload_n hx hb d_F_requireLogicalPage_0 rfl (lv_at hl 0 rfl) ?_
  refine lv_if_lt hx hb d_F_requireLogicalPage_1 (tgt := 10) (by decide) (fun h1 => ?_) (fun h1 => ?_)
  · have hF := tx_t h1 hF
    exact J10 _ (lv_sub hl [] rfl) hF
  · have hF := tx_f h1 hF
    refine lv_iload_n hx hb d_F_requireLogicalPage_4 rfl (lv_at hl 0 rfl) ?_
    refine lv_bipush (v := (8 : Int32)) hx hb d_F_requireLogicalPage_5 (by decide) ?_
    refine lv_icmp_lt hx hb d_F_requireLogicalPage_7 (tgt := 20) (by decide) (fun h7 => ?_) (fun h7 => ?_)
    · have hF := tx_t h7 hF
      exact W.vret hx hb hr (fun t ht hW => ⟨rfl, trivial, ht⟩) (fun q h => by cases h) d_F_requireLogicalPage_20
    · have hF := tx_f h7 hF
      exact J10 _ (lv_sub hl [] rfl) hF
abbrev rm_F_requireBlock : Room := { frames := 0, cells := 0, slots := 0, locals := 0 }
set_option maxHeartbeats 4000000 in
set_option maxRecDepth 100000 in
theorem c_F_requireBlock (l : Launch) (a1 : Int32)  (_u : Unit) (hF : f_F_requireBlock a1 = some _u) : Met l y_F_requireBlock ws_F_requireBlock rm_F_requireBlock (va_Pc [.int a1] (fun _ => True)) (va_Sv (fun _ => True)) 0 0 (fun _ => False) := by
  refine Met.ofW (cc := b_F_requireBlock) (maxL := 1) (ret := none) (by decide +kernel) rfl ?_
  intro p e s m args below meth c s₁ B hml hv
  obtain ⟨hargs, -⟩ := hv
  have hx := B.exec
  have hb := B.bytes
  have hr := B.returns
  have hts := atoms_spec (ws := ws_F_requireBlock) B.pre
  have hown : s.vm.findClass "FlashStore" = some m.cls := findClass_of_methodNamed B.named
  have hlocks := B.notSynchronized
  have hl := lv_entry ([.int a1]) (n := 1) (Nat.le_of_ble_eq_true rfl)
  have hen : entryFrame m args 1 = _ := (congrArg (fun z => entryFrame m z 1) hargs).trans (lg_entry_eq m ([.int a1]) 1)
  refine W.eq hen ?_
  clear hen
  generalize (lg_sl ([.int a1]) ++ List.replicate (1 - (lg_sl ([.int a1])).length) Slot.unset).toArray = ls at hl ⊢
  have hl : lv_has ls 1 [(0, .int a1)] := hl
  have J9 : ∀ (ls : Array Slot), lv_has ls 1 [] → f_F_requireBlock_J9  = some () → W p l e (headSpec ws_F_requireBlock rm_F_requireBlock).room s m args below meth c s.heap [] 0 0 (MQ below (va_Sv (fun _ => True)) args s 0 0 (fun _ => False)) (F0 m 9 ls []) := by
    intro ls hl hF
    have hF : (none) = some () := hF
    cases hF
  have hF : (if a1 < 0 then (f_F_requireBlock_J9 ) else (if a1 < (4 : Int32) then (some ()) else (f_F_requireBlock_J9 ))) = some _u := hF
  refine lv_iload_n hx hb d_F_requireBlock_0 rfl (lv_at hl 0 rfl) ?_
  refine lv_if_lt hx hb d_F_requireBlock_1 (tgt := 9) (by decide) (fun h1 => ?_) (fun h1 => ?_)
  · have hF := tx_t h1 hF
    exact J9 _ (lv_sub hl [] rfl) hF
  · have hF := tx_f h1 hF
    refine lv_iload_n hx hb d_F_requireBlock_4 rfl (lv_at hl 0 rfl) ?_
    refine lv_iconst (v := (4 : Int32)) hx hb d_F_requireBlock_5 (by decide) ?_
    refine lv_icmp_lt hx hb d_F_requireBlock_6 (tgt := 19) (by decide) (fun h6 => ?_) (fun h6 => ?_)
    · have hF := tx_t h6 hF
      exact W.vret hx hb hr (fun t ht hW => ⟨rfl, trivial, ht⟩) (fun q h => by cases h) d_F_requireBlock_19
    · have hF := tx_f h6 hF
      exact J9 _ (lv_sub hl [] rfl) hF
abbrev rm_F_requirePageOfBlock : Room := { frames := 0, cells := 0, slots := 0, locals := 0 }
set_option maxHeartbeats 4000000 in
set_option maxRecDepth 100000 in
theorem c_F_requirePageOfBlock (l : Launch) (a1 : Int32)  (_u : Unit) (hF : f_F_requirePageOfBlock a1 = some _u) : Met l y_F_requirePageOfBlock ws_F_requirePageOfBlock rm_F_requirePageOfBlock (va_Pc [.int a1] (fun _ => True)) (va_Sv (fun _ => True)) 0 0 (fun _ => False) := by
  refine Met.ofW (cc := b_F_requirePageOfBlock) (maxL := 1) (ret := none) (by decide +kernel) rfl ?_
  intro p e s m args below meth c s₁ B hml hv
  obtain ⟨hargs, -⟩ := hv
  have hx := B.exec
  have hb := B.bytes
  have hr := B.returns
  have hts := atoms_spec (ws := ws_F_requirePageOfBlock) B.pre
  have hown : s.vm.findClass "FlashStore" = some m.cls := findClass_of_methodNamed B.named
  have hlocks := B.notSynchronized
  have hl := lv_entry ([.int a1]) (n := 1) (Nat.le_of_ble_eq_true rfl)
  have hen : entryFrame m args 1 = _ := (congrArg (fun z => entryFrame m z 1) hargs).trans (lg_entry_eq m ([.int a1]) 1)
  refine W.eq hen ?_
  clear hen
  generalize (lg_sl ([.int a1]) ++ List.replicate (1 - (lg_sl ([.int a1])).length) Slot.unset).toArray = ls at hl ⊢
  have hl : lv_has ls 1 [(0, .int a1)] := hl
  have J9 : ∀ (ls : Array Slot), lv_has ls 1 [] → f_F_requirePageOfBlock_J9  = some () → W p l e (headSpec ws_F_requirePageOfBlock rm_F_requirePageOfBlock).room s m args below meth c s.heap [] 0 0 (MQ below (va_Sv (fun _ => True)) args s 0 0 (fun _ => False)) (F0 m 9 ls []) := by
    intro ls hl hF
    have hF : (none) = some () := hF
    cases hF
  have hF : (if a1 < 0 then (f_F_requirePageOfBlock_J9 ) else (if a1 < (4 : Int32) then (some ()) else (f_F_requirePageOfBlock_J9 ))) = some _u := hF
  refine lv_iload_n hx hb d_F_requirePageOfBlock_0 rfl (lv_at hl 0 rfl) ?_
  refine lv_if_lt hx hb d_F_requirePageOfBlock_1 (tgt := 9) (by decide) (fun h1 => ?_) (fun h1 => ?_)
  · have hF := tx_t h1 hF
    exact J9 _ (lv_sub hl [] rfl) hF
  · have hF := tx_f h1 hF
    refine lv_iload_n hx hb d_F_requirePageOfBlock_4 rfl (lv_at hl 0 rfl) ?_
    refine lv_iconst (v := (4 : Int32)) hx hb d_F_requirePageOfBlock_5 (by decide) ?_
    refine lv_icmp_lt hx hb d_F_requirePageOfBlock_6 (tgt := 19) (by decide) (fun h6 => ?_) (fun h6 => ?_)
    · have hF := tx_t h6 hF
      exact W.vret hx hb hr (fun t ht hW => ⟨rfl, trivial, ht⟩) (fun q h => by cases h) d_F_requirePageOfBlock_19
    · have hF := tx_f h6 hF
      exact J9 _ (lv_sub hl [] rfl) hF
abbrev rm_F_requireWord : Room := { frames := 1, cells := 0, slots := 0, locals := 20 }
set_option maxHeartbeats 4000000 in
set_option maxRecDepth 100000 in
theorem c_F_requireWord (l : Launch) (a1 : Int32) (a2 : Int32) (a3 : Int32)  (_u : Unit) (hF : f_F_requireWord a1 a2 a3 = some _u) : Met l y_F_requireWord ws_F_requireWord rm_F_requireWord (va_Pc [.int a1, .int a2, .int a3] (fun _ => True)) (va_Sv (fun _ => True)) 0 0 (fun _ => False) := by
  refine Met.ofW (cc := b_F_requireWord) (maxL := 3) (ret := none) (by decide +kernel) rfl ?_
  intro p e s m args below meth c s₁ B hml hv
  obtain ⟨hargs, -⟩ := hv
  have hx := B.exec
  have hb := B.bytes
  have hr := B.returns
  have hts := atoms_spec (ws := ws_F_requireWord) B.pre
  have hown : s.vm.findClass "FlashStore" = some m.cls := findClass_of_methodNamed B.named
  have hlocks := B.notSynchronized
  have hl := lv_entry ([.int a1, .int a2, .int a3]) (n := 3) (Nat.le_of_ble_eq_true rfl)
  have hen : entryFrame m args 3 = _ := (congrArg (fun z => entryFrame m z 3) hargs).trans (lg_entry_eq m ([.int a1, .int a2, .int a3]) 3)
  refine W.eq hen ?_
  clear hen
  generalize (lg_sl ([.int a1, .int a2, .int a3]) ++ List.replicate (3 - (lg_sl ([.int a1, .int a2, .int a3])).length) Slot.unset).toArray = ls at hl ⊢
  have hl : lv_has ls 3 [(0, .int a1), (1, .int a2), (2, .int a3)] := hl
  have J17 : ∀ (ls : Array Slot), lv_has ls 3 [] → f_F_requireWord_J17  = some () → W p l e (headSpec ws_F_requireWord rm_F_requireWord).room s m args below meth c s.heap [] 0 0 (MQ below (va_Sv (fun _ => True)) args s 0 0 (fun _ => False)) (F0 m 17 ls []) := by
    intro ls hl hF
    have hF : (none) = some () := hF
    cases hF
  have hF : ((f_F_requireBlock a1).bind fun _ => (f_F_requirePageOfBlock a2).bind fun _ => if a3 < 0 then (f_F_requireWord_J17 ) else (if a3 < (5 : Int32) then (some ()) else (f_F_requireWord_J17 ))) = some _u := hF
  refine lv_iload_n hx hb d_F_requireWord_0 rfl (lv_at hl 0 rfl) ?_
  obtain ⟨_u, hc1, hF⟩ := tx_b hF
  refine va_csv (W.runS (As := [.int a1]) (rest := []) ⟨hx, hb, hml, hown, hts⟩ (c_F_requireBlock l a1 _u hc1) (va_cwS 1 hts (tg_S bq_2_134 bq_2_135 bq_1_1 bq_2_136) rfl rfl rfl (by decide +kernel) ⟨Nat.le_of_ble_eq_true rfl, Nat.le_of_ble_eq_true rfl⟩) ⟨tx_bl0, tx_pre0⟩ rfl rfl hl.1 rfl (lv_room (Nat.le_of_ble_eq_true rfl)) d_F_requireWord_1 ⟨Nat.zero_le _, Nat.zero_le _⟩) (fun _ => ?_)
  refine lv_iload_n hx hb d_F_requireWord_4 rfl (lv_at hl 1 rfl) ?_
  obtain ⟨_u, hc5, hF⟩ := tx_b hF
  refine va_csv (W.runS (As := [.int a2]) (rest := []) ⟨hx, hb, hml, hown, hts⟩ (c_F_requirePageOfBlock l a2 _u hc5) (va_cwS 1 hts (tg_S bq_2_138 bq_2_139 bq_1_1 bq_2_140) rfl rfl rfl (by decide +kernel) ⟨Nat.le_of_ble_eq_true rfl, Nat.le_of_ble_eq_true rfl⟩) ⟨tx_bl0, tx_pre0⟩ rfl rfl hl.1 rfl (lv_room (Nat.le_of_ble_eq_true rfl)) d_F_requireWord_5 ⟨Nat.zero_le _, Nat.zero_le _⟩) (fun _ => ?_)
  refine lv_iload_n hx hb d_F_requireWord_8 rfl (lv_at hl 2 rfl) ?_
  refine lv_if_lt hx hb d_F_requireWord_9 (tgt := 17) (by decide) (fun h9 => ?_) (fun h9 => ?_)
  · have hF := tx_t h9 hF
    exact J17 _ (lv_sub hl [] rfl) hF
  · have hF := tx_f h9 hF
    refine lv_iload_n hx hb d_F_requireWord_12 rfl (lv_at hl 2 rfl) ?_
    refine lv_iconst (v := (5 : Int32)) hx hb d_F_requireWord_13 (by decide) ?_
    refine lv_icmp_lt hx hb d_F_requireWord_14 (tgt := 27) (by decide) (fun h14 => ?_) (fun h14 => ?_)
    · have hF := tx_t h14 hF
      exact W.vret hx hb hr (fun t ht hW => ⟨rfl, trivial, ht⟩) (fun q h => by cases h) d_F_requireWord_27
    · have hF := tx_f h14 hF
      exact J17 _ (lv_sub hl [] rfl) hF
abbrev rm_F_hold : Room := { frames := 0, cells := 0, slots := 0, locals := 0 }
set_option maxHeartbeats 4000000 in
set_option maxRecDepth 100000 in
theorem c_F_hold (l : Launch) (dC : Nat → ClassId) (dI : Nat → Nat → Nat) (cA : ClassId) (h0 q1 q2 q3 q4 q5 q6 sz : Nat) (st pl tk wd er : Nat → Int32) (nx md : Int32) (a1 : Int32) (a2 : Int32) (st' : Nat → Int32) (pl' : Nat → Int32) (hF : f_F_hold st pl a1 a2 = some (st', pl')) : Met l y_F_hold ws_F_hold rm_F_hold (tx_PW [.ref h0, .int a1, .int a2] (dC, dI) [(cA, .int)] (wF cA h0 q1 q2 q3 q4 q5 q6 st pl tk wd er nx md) sz) (va_Qv (S := Unit) (fun _ => True) (fun _ t => va_P (dC, dI) vwCl (wF cA h0 q1 q2 q3 q4 q5 q6 (st') (pl') tk wd er nx md) t.heap ∧ va_D (va_A (wF cA h0 q1 q2 q3 q4 q5 q6 st pl tk wd er nx md) sz) (wF cA h0 q1 q2 q3 q4 q5 q6 (st') (pl') tk wd er nx md)) (va_A (wF cA h0 q1 q2 q3 q4 q5 q6 st pl tk wd er nx md) sz)) 0 0 (va_A (wF cA h0 q1 q2 q3 q4 q5 q6 st pl tk wd er nx md) sz) := by
  refine Met.ofW (cc := b_F_hold) (maxL := 3) (ret := none) (by decide +kernel) rfl ?_
  intro p e s m args below meth c s₁ B hml hv
  obtain ⟨hargs, hsz, hP, hK, hD0, hNw⟩ := hv
  have hx := B.exec
  have hb := B.bytes
  have hr := B.returns
  have hts := atoms_spec (ws := ws_F_hold) B.pre
  have hown : s.vm.findClass "FlashStore" = some m.cls := findClass_of_methodNamed B.named
  have hlocks := B.notSynchronized
  subst hsz
  have hD := hD0.self (sz := s.heap.size)
  generalize hAe : va_A (wF cA h0 q1 q2 q3 q4 q5 q6 st pl tk wd er nx md) s.heap.size = A at hD ⊢
  have hA : ∀ q : Nat, s.heap.size ≤ q → A q := fun q h => by rw [← hAe]; exact Or.inr h
  have hS : va_S A s.heap s.heap [] := va_S.rf
  have hP : va_P (dC, dI) vwCl (wF cA h0 q1 q2 q3 q4 q5 q6 st pl tk wd er nx md) s.heap := hP
  have w0 := (hts _ (List.mem_cons_of_mem _ bq_1_42))
  have w1 := (hts _ (List.mem_cons_of_mem _ bq_1_43))
  have hl := lv_entry ([.ref h0, .int a1, .int a2]) (n := 3) (Nat.le_of_ble_eq_true rfl)
  have hen : entryFrame m args 3 = _ := (congrArg (fun z => entryFrame m z 3) hargs).trans (lg_entry_eq m ([.ref h0, .int a1, .int a2]) 3)
  refine W.eq hen ?_
  clear hen
  generalize (lg_sl ([.ref h0, .int a1, .int a2]) ++ List.replicate (3 - (lg_sl ([.ref h0, .int a1, .int a2])).length) Slot.unset).toArray = ls at hl ⊢
  have hl : lv_has ls 3 [(0, .ref h0), (1, .int a1), (2, .int a2)] := hl
  have hF : (if a2 < 0 ∨ 16 ≤ a2.toNatClampNeg then none else if a1 < 0 ∨ 8 ≤ a1.toNatClampNeg then none else some ((upd st a2.toNatClampNeg (1 : Int32)), (upd pl a1.toNatClampNeg a2))) = some (st', pl') := hF
  refine lv_aload_n hx hb d_F_hold_0 rfl (lv_at hl 0 rfl) ?_
  refine va_get (D := (dC, dI)) (ci := 1) (v := .ref q2) (C := "FlashStore") (T := TF) (N := 6) hx hb hts inTF hown hK hP 0 rfl rfl 1 (by decide) w0 (fun _ h9 => h9) rfl d_F_hold_1 ?_
  refine lv_iload_n hx hb d_F_hold_4 rfl (lv_at hl 2 rfl) ?_
  refine lv_iconst (v := (1 : Int32)) hx hb d_F_hold_5 (by decide) ?_
  obtain ⟨hi6, hF⟩ := tx_g hF
  refine va_iast hx hb hK hP hD hS 2 0 rfl rfl hi6 d_F_hold_6 (fun H locs hP hD hS => ?_)
  have hP : va_P (dC, dI) vwCl (wF cA h0 q1 q2 q3 q4 q5 q6 (upd st a2.toNatClampNeg (1 : Int32)) pl tk wd er nx md) H := hP
  have hD : va_D A (wF cA h0 q1 q2 q3 q4 q5 q6 (upd st a2.toNatClampNeg (1 : Int32)) pl tk wd er nx md) := hD
  refine lv_aload_n hx hb d_F_hold_7 rfl (lv_at hl 0 rfl) ?_
  refine va_get (D := (dC, dI)) (ci := 1) (v := .ref q3) (C := "FlashStore") (T := TF) (N := 6) hx hb hts inTF hown hK hP 0 rfl rfl 2 (by decide) w1 (fun _ h9 => h9) rfl d_F_hold_8 ?_
  refine lv_iload_n hx hb d_F_hold_11 rfl (lv_at hl 1 rfl) ?_
  refine lv_iload_n hx hb d_F_hold_12 rfl (lv_at hl 2 rfl) ?_
  obtain ⟨hi13, hF⟩ := tx_g hF
  refine va_iast hx hb hK hP hD hS 3 0 rfl rfl hi13 d_F_hold_13 (fun H locs hP hD hS => ?_)
  have hP : va_P (dC, dI) vwCl (wF cA h0 q1 q2 q3 q4 q5 q6 (upd st a2.toNatClampNeg (1 : Int32)) (upd pl a1.toNatClampNeg a2) tk wd er nx md) H := hP
  have hD : va_D A (wF cA h0 q1 q2 q3 q4 q5 q6 (upd st a2.toNatClampNeg (1 : Int32)) (upd pl a1.toNatClampNeg a2) tk wd er nx md) := hD
  cases hF
  exact W.vret hx hb hr (fun t ht hW => ⟨⟨(), rfl, trivial, by rw [ht]; exact hP, hD⟩, hS.F ht⟩) hS.2.2 d_F_hold_14
abbrev rm_F_forget : Room := { frames := 0, cells := 0, slots := 0, locals := 0 }
set_option maxHeartbeats 4000000 in
set_option maxRecDepth 100000 in
theorem c_F_forget (l : Launch) (dC : Nat → ClassId) (dI : Nat → Nat → Nat) (cA : ClassId) (h0 q1 q2 q3 q4 q5 q6 sz : Nat) (st pl tk wd er : Nat → Int32) (nx md : Int32) (a1 : Int32) (st' : Nat → Int32) (pl' : Nat → Int32) (hF : f_F_forget st pl a1 = some (st', pl')) : Met l y_F_forget ws_F_forget rm_F_forget (tx_PW [.ref h0, .int a1] (dC, dI) [(cA, .int)] (wF cA h0 q1 q2 q3 q4 q5 q6 st pl tk wd er nx md) sz) (va_Qv (S := Unit) (fun _ => True) (fun _ t => va_P (dC, dI) vwCl (wF cA h0 q1 q2 q3 q4 q5 q6 (st') (pl') tk wd er nx md) t.heap ∧ va_D (va_A (wF cA h0 q1 q2 q3 q4 q5 q6 st pl tk wd er nx md) sz) (wF cA h0 q1 q2 q3 q4 q5 q6 (st') (pl') tk wd er nx md)) (va_A (wF cA h0 q1 q2 q3 q4 q5 q6 st pl tk wd er nx md) sz)) 0 0 (va_A (wF cA h0 q1 q2 q3 q4 q5 q6 st pl tk wd er nx md) sz) := by
  refine Met.ofW (cc := b_F_forget) (maxL := 2) (ret := none) (by decide +kernel) rfl ?_
  intro p e s m args below meth c s₁ B hml hv
  obtain ⟨hargs, hsz, hP, hK, hD0, hNw⟩ := hv
  have hx := B.exec
  have hb := B.bytes
  have hr := B.returns
  have hts := atoms_spec (ws := ws_F_forget) B.pre
  have hown : s.vm.findClass "FlashStore" = some m.cls := findClass_of_methodNamed B.named
  have hlocks := B.notSynchronized
  subst hsz
  have hD := hD0.self (sz := s.heap.size)
  generalize hAe : va_A (wF cA h0 q1 q2 q3 q4 q5 q6 st pl tk wd er nx md) s.heap.size = A at hD ⊢
  have hA : ∀ q : Nat, s.heap.size ≤ q → A q := fun q h => by rw [← hAe]; exact Or.inr h
  have hS : va_S A s.heap s.heap [] := va_S.rf
  have hP : va_P (dC, dI) vwCl (wF cA h0 q1 q2 q3 q4 q5 q6 st pl tk wd er nx md) s.heap := hP
  have w0 := (hts _ (List.mem_cons_of_mem _ bq_1_43))
  have w1 := (hts _ (List.mem_cons_of_mem _ bq_1_42))
  have hl := lv_entry ([.ref h0, .int a1]) (n := 2) (Nat.le_of_ble_eq_true rfl)
  have hen : entryFrame m args 2 = _ := (congrArg (fun z => entryFrame m z 2) hargs).trans (lg_entry_eq m ([.ref h0, .int a1]) 2)
  refine W.eq hen ?_
  clear hen
  generalize (lg_sl ([.ref h0, .int a1]) ++ List.replicate (2 - (lg_sl ([.ref h0, .int a1])).length) Slot.unset).toArray = ls at hl ⊢
  have hl : lv_has ls 2 [(0, .ref h0), (1, .int a1)] := hl
  have J29 : ∀ (H : Heap) (locs : List Loc) (ls : Array Slot) (st : Nat → Int32) (pl : Nat → Int32), va_P (dC, dI) vwCl (wF cA h0 q1 q2 q3 q4 q5 q6 st pl tk wd er nx md) H → va_D A (wF cA h0 q1 q2 q3 q4 q5 q6 st pl tk wd er nx md) → va_S A s.heap H locs → lv_has ls 2 [] → f_F_forget_J29 st pl = some (st', pl') → W p l e (headSpec ws_F_forget rm_F_forget).room s m args below meth c H locs 0 0 (MQ below (va_Qv (S := Unit) (fun _ => True) (fun _ t => va_P (dC, dI) vwCl (wF cA h0 q1 q2 q3 q4 q5 q6 (st') (pl') tk wd er nx md) t.heap ∧ va_D A (wF cA h0 q1 q2 q3 q4 q5 q6 (st') (pl') tk wd er nx md)) A) args s 0 0 A) (F0 m 29 ls []) := by
    intro H locs ls st pl hP hD hS hl hF
    have hF : (some (st, pl)) = some (st', pl') := hF
    cases hF
    exact W.vret hx hb hr (fun t ht hW => ⟨⟨(), rfl, trivial, by rw [ht]; exact hP, hD⟩, hS.F ht⟩) hS.2.2 d_F_forget_29
  have hF : (if a1 < 0 ∨ 8 ≤ a1.toNatClampNeg then none else if (pl a1.toNatClampNeg) = (-1 : Int32) then (f_F_forget_J29 st pl) else (if (pl a1.toNatClampNeg) < 0 ∨ 16 ≤ (pl a1.toNatClampNeg).toNatClampNeg then none else f_F_forget_J29 (upd st (pl a1.toNatClampNeg).toNatClampNeg (2 : Int32)) (upd pl a1.toNatClampNeg (-1 : Int32)))) = some (st', pl') := hF
  refine lv_aload_n hx hb d_F_forget_0 rfl (lv_at hl 0 rfl) ?_
  refine va_get (D := (dC, dI)) (ci := 1) (v := .ref q3) (C := "FlashStore") (T := TF) (N := 6) hx hb hts inTF hown hK hP 0 rfl rfl 2 (by decide) w0 (fun _ h9 => h9) rfl d_F_forget_1 ?_
  refine lv_iload_n hx hb d_F_forget_4 rfl (lv_at hl 1 rfl) ?_
  obtain ⟨hi5, hF⟩ := tx_g hF
  refine va_iald hx hb hK hP 3 0 rfl rfl hi5 d_F_forget_5 ?_
  refine lv_iconst (v := (-1 : Int32)) hx hb d_F_forget_6 (by decide) ?_
  refine lv_icmp_eq hx hb d_F_forget_7 (tgt := 29) (by decide) (fun h7 => ?_) (fun h7 => ?_)
  · have hF := tx_t h7 hF
    exact J29 _ _ _ st pl hP hD hS (lv_sub hl [] rfl) hF
  · have hF := tx_f h7 hF
    refine lv_aload_n hx hb d_F_forget_10 rfl (lv_at hl 0 rfl) ?_
    refine va_get (D := (dC, dI)) (ci := 1) (v := .ref q2) (C := "FlashStore") (T := TF) (N := 6) hx hb hts inTF hown hK hP 0 rfl rfl 1 (by decide) w1 (fun _ h9 => h9) rfl d_F_forget_11 ?_
    refine lv_aload_n hx hb d_F_forget_14 rfl (lv_at hl 0 rfl) ?_
    refine va_get (D := (dC, dI)) (ci := 1) (v := .ref q3) (C := "FlashStore") (T := TF) (N := 6) hx hb hts inTF hown hK hP 0 rfl rfl 2 (by decide) w0 (fun _ h9 => h9) rfl d_F_forget_15 ?_
    refine lv_iload_n hx hb d_F_forget_18 rfl (lv_at hl 1 rfl) ?_
    refine va_iald hx hb hK hP 3 0 rfl rfl hi5 d_F_forget_19 ?_
    refine lv_iconst (v := (2 : Int32)) hx hb d_F_forget_20 (by decide) ?_
    obtain ⟨hi21, hF⟩ := tx_g hF
    refine va_iast hx hb hK hP hD hS 2 0 rfl rfl hi21 d_F_forget_21 (fun H locs hP hD hS => ?_)
    have hP : va_P (dC, dI) vwCl (wF cA h0 q1 q2 q3 q4 q5 q6 (upd st (pl a1.toNatClampNeg).toNatClampNeg (2 : Int32)) pl tk wd er nx md) H := hP
    have hD : va_D A (wF cA h0 q1 q2 q3 q4 q5 q6 (upd st (pl a1.toNatClampNeg).toNatClampNeg (2 : Int32)) pl tk wd er nx md) := hD
    refine lv_aload_n hx hb d_F_forget_22 rfl (lv_at hl 0 rfl) ?_
    refine va_get (D := (dC, dI)) (ci := 1) (v := .ref q3) (C := "FlashStore") (T := TF) (N := 6) hx hb hts inTF hown hK hP 0 rfl rfl 2 (by decide) w0 (fun _ h9 => h9) rfl d_F_forget_23 ?_
    refine lv_iload_n hx hb d_F_forget_26 rfl (lv_at hl 1 rfl) ?_
    refine lv_iconst (v := (-1 : Int32)) hx hb d_F_forget_27 (by decide) ?_
    refine va_iast hx hb hK hP hD hS 3 0 rfl rfl hi5 d_F_forget_28 (fun H locs hP hD hS => ?_)
    have hP : va_P (dC, dI) vwCl (wF cA h0 q1 q2 q3 q4 q5 q6 (upd st (pl a1.toNatClampNeg).toNatClampNeg (2 : Int32)) (upd pl a1.toNatClampNeg (-1 : Int32)) tk wd er nx md) H := hP
    have hD : va_D A (wF cA h0 q1 q2 q3 q4 q5 q6 (upd st (pl a1.toNatClampNeg).toNatClampNeg (2 : Int32)) (upd pl a1.toNatClampNeg (-1 : Int32)) tk wd er nx md) := hD
    exact J29 _ _ _ (upd st (pl a1.toNatClampNeg).toNatClampNeg (2 : Int32)) (upd pl a1.toNatClampNeg (-1 : Int32)) hP hD hS (lv_sub hl [] rfl) hF
abbrev rm_F_take : Room := { frames := 2, cells := 0, slots := 0, locals := 44 }
set_option maxHeartbeats 4000000 in
set_option maxRecDepth 100000 in
theorem c_F_take (l : Launch) (dC : Nat → ClassId) (dI : Nat → Nat → Nat) (cA : ClassId) (h0 q1 q2 q3 q4 q5 q6 sz : Nat) (st pl tk wd er : Nat → Int32) (nx md : Int32) (a1 : Int32) (a2 : Int32) (a3 : Int32) (st' : Nat → Int32) (pl' : Nat → Int32) (tk' : Nat → Int32) (hF : f_F_take st pl tk a1 a2 a3 = some (st', pl', tk')) : Met l y_F_take ws_F_take rm_F_take (tx_PW [.ref h0, .int a1, .int a2, .int a3] (dC, dI) [(cA, .int)] (wF cA h0 q1 q2 q3 q4 q5 q6 st pl tk wd er nx md) sz) (va_Qv (S := Unit) (fun _ => True) (fun _ t => va_P (dC, dI) vwCl (wF cA h0 q1 q2 q3 q4 q5 q6 (st') (pl') (tk') wd er nx md) t.heap ∧ va_D (va_A (wF cA h0 q1 q2 q3 q4 q5 q6 st pl tk wd er nx md) sz) (wF cA h0 q1 q2 q3 q4 q5 q6 (st') (pl') (tk') wd er nx md)) (va_A (wF cA h0 q1 q2 q3 q4 q5 q6 st pl tk wd er nx md) sz)) 0 0 (va_A (wF cA h0 q1 q2 q3 q4 q5 q6 st pl tk wd er nx md) sz) := by
  refine Met.ofW (cc := b_F_take) (maxL := 4) (ret := none) (by decide +kernel) rfl ?_
  intro p e s m args below meth c s₁ B hml hv
  obtain ⟨hargs, hsz, hP, hK, hD0, hNw⟩ := hv
  have hx := B.exec
  have hb := B.bytes
  have hr := B.returns
  have hts := atoms_spec (ws := ws_F_take) B.pre
  have hown : s.vm.findClass "FlashStore" = some m.cls := findClass_of_methodNamed B.named
  have hlocks := B.notSynchronized
  subst hsz
  have hD := hD0.self (sz := s.heap.size)
  generalize hAe : va_A (wF cA h0 q1 q2 q3 q4 q5 q6 st pl tk wd er nx md) s.heap.size = A at hD ⊢
  have hA : ∀ q : Nat, s.heap.size ≤ q → A q := fun q h => by rw [← hAe]; exact Or.inr h
  have hS : va_S A s.heap s.heap [] := va_S.rf
  have hP : va_P (dC, dI) vwCl (wF cA h0 q1 q2 q3 q4 q5 q6 st pl tk wd er nx md) s.heap := hP
  have w0 := (hts _ (List.mem_cons_of_mem _ bq_1_43))
  have w1 := (hts _ (List.mem_cons_of_mem _ bq_1_44))
  have w2 := (hts _ (List.mem_cons_of_mem _ bq_1_42))
  have hl := lv_entry ([.ref h0, .int a1, .int a2, .int a3]) (n := 4) (Nat.le_of_ble_eq_true rfl)
  have hen : entryFrame m args 4 = _ := (congrArg (fun z => entryFrame m z 4) hargs).trans (lg_entry_eq m ([.ref h0, .int a1, .int a2, .int a3]) 4)
  refine W.eq hen ?_
  clear hen
  generalize (lg_sl ([.ref h0, .int a1, .int a2, .int a3]) ++ List.replicate (4 - (lg_sl ([.ref h0, .int a1, .int a2, .int a3])).length) Slot.unset).toArray = ls at hl ⊢
  have hl : lv_has ls 4 [(0, .ref h0), (1, .int a1), (2, .int a2), (3, .int a3)] := hl
  have J31 : ∀ (H : Heap) (locs : List Loc) (ls : Array Slot) (st : Nat → Int32) (pl : Nat → Int32) (tk : Nat → Int32) (v1 : Int32) (v2 : Int32) (v3 : Int32), va_P (dC, dI) vwCl (wF cA h0 q1 q2 q3 q4 q5 q6 st pl tk wd er nx md) H → va_D A (wF cA h0 q1 q2 q3 q4 q5 q6 st pl tk wd er nx md) → va_S A s.heap H locs → lv_has ls 4 [(0, .ref h0), (1, .int v1), (2, .int v2), (3, .int v3)] → f_F_take_J31 st pl tk v1 v2 v3 = some (st', pl', tk') → W p l e (headSpec ws_F_take rm_F_take).room s m args below meth c H locs 0 0 (MQ below (va_Qv (S := Unit) (fun _ => True) (fun _ t => va_P (dC, dI) vwCl (wF cA h0 q1 q2 q3 q4 q5 q6 (st') (pl') (tk') wd er nx md) t.heap ∧ va_D A (wF cA h0 q1 q2 q3 q4 q5 q6 (st') (pl') (tk') wd er nx md)) A) args s 0 0 A) (F0 m 31 ls []) := by
    intro H locs ls st pl tk v1 v2 v3 hP hD hS hl hF
    have hF : ((f_F_forget st pl v2).bind fun (st33, pl33) => (f_F_hold st33 pl33 v2 v1).bind fun (st39, pl39) => if v2 < 0 ∨ 8 ≤ v2.toNatClampNeg then none else some (st39, pl39, (upd tk v2.toNatClampNeg v3))) = some (st', pl', tk') := hF
    refine lv_aload_n hx hb d_F_take_31 rfl (lv_at hl 0 rfl) ?_
    refine lv_iload_n hx hb d_F_take_32 rfl (lv_at hl 2 rfl) ?_
    obtain ⟨⟨st33, pl33⟩, hc33, hF⟩ := tx_b hF
    try dsimp only at hF
    have hPc := hP.sub (ws' := (wF cA h0 q1 q2 q3 q4 q5 q6 st pl tk wd er nx md)) [0, 1, 2, 3, 4, 5, 6] rfl
    have hDc := hD.sub (ws' := (wF cA h0 q1 q2 q3 q4 q5 q6 st pl tk wd er nx md)) [0, 1, 2, 3, 4, 5, 6] (by decide) rfl
    have hFc := va_free (wc := (wF cA h0 q1 q2 q3 q4 q5 q6 st pl tk wd er nx md)) hD hS hA [0, 1, 2, 3, 4, 5, 6] rfl
    refine va_callv (va_runV (As := [.int v2]) (rest := []) ⟨hx, hb, hml, hown, hts⟩ (c_F_forget l dC dI cA h0 q1 q2 q3 q4 q5 q6 H.size st pl tk wd er nx md v2 st33 pl33 hc33) (cwV 1 hts (tg_V bq_1_117 bq_1_119 bq_s_1 bq_1_1 bq_1_120) rfl rfl rfl (by decide +kernel) ⟨Nat.le_of_ble_eq_true rfl, Nat.le_of_ble_eq_true rfl⟩) ⟨tx_blW, (va_recv (ci := 1) (q0 := 0) hK hP rfl rfl), tx_preW hPc hDc hK hNw⟩ rfl rfl hl.1 rfl (lv_room (Nat.le_of_ble_eq_true rfl)) d_F_take_33 ⟨Nat.zero_le _, Nat.zero_le _⟩) hS (fun q _ h => hFc q h) hFc (fun _u t H locs ht hvm hw hB hz1 hk1 hS => ?_)
    obtain ⟨hP1, hD1⟩ := hB
    rw [ht] at hP1
    obtain ⟨hP2, hD2⟩ := va_join (wr := []) (w1 := (wF cA h0 q1 q2 q3 q4 q5 q6 st33 pl33 tk wd er nx md)) hP hD [0, 1, 2, 3, 4, 5, 6] [] rfl rfl (by decide) (by decide) hk1 hFc hP1 hD1
    have hP := hP2.sub (ws' := (wF cA h0 q1 q2 q3 q4 q5 q6 st33 pl33 tk wd er nx md)) [0, 1, 2, 3, 4, 5, 6] rfl
    have hD := hD2.sub (ws' := (wF cA h0 q1 q2 q3 q4 q5 q6 st33 pl33 tk wd er nx md)) [0, 1, 2, 3, 4, 5, 6] (by decide) rfl
    refine lv_aload_n hx hb d_F_take_36 rfl (lv_at hl 0 rfl) ?_
    refine lv_iload_n hx hb d_F_take_37 rfl (lv_at hl 2 rfl) ?_
    refine lv_iload_n hx hb d_F_take_38 rfl (lv_at hl 1 rfl) ?_
    obtain ⟨⟨st39, pl39⟩, hc39, hF⟩ := tx_b hF
    try dsimp only at hF
    have hPc := hP.sub (ws' := (wF cA h0 q1 q2 q3 q4 q5 q6 st33 pl33 tk wd er nx md)) [0, 1, 2, 3, 4, 5, 6] rfl
    have hDc := hD.sub (ws' := (wF cA h0 q1 q2 q3 q4 q5 q6 st33 pl33 tk wd er nx md)) [0, 1, 2, 3, 4, 5, 6] (by decide) rfl
    have hFc := va_free (wc := (wF cA h0 q1 q2 q3 q4 q5 q6 st33 pl33 tk wd er nx md)) hD hS hA [0, 1, 2, 3, 4, 5, 6] rfl
    refine va_callv (va_runV (As := [.int v2, .int v1]) (rest := []) ⟨hx, hb, hml, hown, hts⟩ (c_F_hold l dC dI cA h0 q1 q2 q3 q4 q5 q6 H.size st33 pl33 tk wd er nx md v2 v1 st39 pl39 hc39) (cwV 2 hts (tg_V bq_1_121 bq_1_123 bq_s_2 bq_1_1 bq_1_124) rfl rfl rfl (by decide +kernel) ⟨Nat.le_of_ble_eq_true rfl, Nat.le_of_ble_eq_true rfl⟩) ⟨tx_blW, (va_recv (ci := 1) (q0 := 0) hK hP rfl rfl), tx_preW hPc hDc hK hNw⟩ rfl rfl hl.1 rfl (lv_room (Nat.le_of_ble_eq_true rfl)) d_F_take_39 ⟨Nat.zero_le _, Nat.zero_le _⟩) hS (fun q _ h => hFc q h) hFc (fun _u t H locs ht hvm hw hB hz1 hk1 hS => ?_)
    obtain ⟨hP1, hD1⟩ := hB
    rw [ht] at hP1
    obtain ⟨hP2, hD2⟩ := va_join (wr := []) (w1 := (wF cA h0 q1 q2 q3 q4 q5 q6 st39 pl39 tk wd er nx md)) hP hD [0, 1, 2, 3, 4, 5, 6] [] rfl rfl (by decide) (by decide) hk1 hFc hP1 hD1
    have hP := hP2.sub (ws' := (wF cA h0 q1 q2 q3 q4 q5 q6 st39 pl39 tk wd er nx md)) [0, 1, 2, 3, 4, 5, 6] rfl
    have hD := hD2.sub (ws' := (wF cA h0 q1 q2 q3 q4 q5 q6 st39 pl39 tk wd er nx md)) [0, 1, 2, 3, 4, 5, 6] (by decide) rfl
    refine lv_aload_n hx hb d_F_take_42 rfl (lv_at hl 0 rfl) ?_
    refine va_get (D := (dC, dI)) (ci := 1) (v := .ref q4) (C := "FlashStore") (T := TF) (N := 6) hx hb hts inTF hown hK hP 0 rfl rfl 3 (by decide) w1 (fun _ h9 => h9) rfl d_F_take_43 ?_
    refine lv_iload_n hx hb d_F_take_46 rfl (lv_at hl 2 rfl) ?_
    refine lv_iload_n hx hb d_F_take_47 rfl (lv_at hl 3 rfl) ?_
    obtain ⟨hi48, hF⟩ := tx_g hF
    refine va_iast hx hb hK hP hD hS 4 0 rfl rfl hi48 d_F_take_48 (fun H locs hP hD hS => ?_)
    have hP : va_P (dC, dI) vwCl (wF cA h0 q1 q2 q3 q4 q5 q6 st39 pl39 (upd tk v2.toNatClampNeg v3) wd er nx md) H := hP
    have hD : va_D A (wF cA h0 q1 q2 q3 q4 q5 q6 st39 pl39 (upd tk v2.toNatClampNeg v3) wd er nx md) := hD
    cases hF
    exact W.vret hx hb hr (fun t ht hW => ⟨⟨(), rfl, trivial, by rw [ht]; exact hP, hD⟩, hS.F ht⟩) hS.2.2 d_F_take_49
  have hF : (if a2 < 0 ∨ 8 ≤ a2.toNatClampNeg then none else if (pl a2.toNatClampNeg) = (-1 : Int32) then (f_F_take_J31 st pl tk a1 a2 a3) else ((f_F_isNewer a3 (tk a2.toNatClampNeg)).bind fun r17 => if r17 = 0 then (if a1 < 0 ∨ 16 ≤ a1.toNatClampNeg then none else some ((upd st a1.toNatClampNeg (2 : Int32)), pl, tk)) else (f_F_take_J31 st pl tk a1 a2 a3))) = some (st', pl', tk') := hF
  refine lv_aload_n hx hb d_F_take_0 rfl (lv_at hl 0 rfl) ?_
  refine va_get (D := (dC, dI)) (ci := 1) (v := .ref q3) (C := "FlashStore") (T := TF) (N := 6) hx hb hts inTF hown hK hP 0 rfl rfl 2 (by decide) w0 (fun _ h9 => h9) rfl d_F_take_1 ?_
  refine lv_iload_n hx hb d_F_take_4 rfl (lv_at hl 2 rfl) ?_
  obtain ⟨hi5, hF⟩ := tx_g hF
  refine va_iald hx hb hK hP 3 0 rfl rfl hi5 d_F_take_5 ?_
  refine lv_iconst (v := (-1 : Int32)) hx hb d_F_take_6 (by decide) ?_
  refine lv_icmp_eq hx hb d_F_take_7 (tgt := 31) (by decide) (fun h7 => ?_) (fun h7 => ?_)
  · have hF := tx_t h7 hF
    exact J31 _ _ _ st pl tk a1 a2 a3 hP hD hS hl hF
  · have hF := tx_f h7 hF
    refine lv_iload_n hx hb d_F_take_10 rfl (lv_at hl 3 rfl) ?_
    refine lv_aload_n hx hb d_F_take_11 rfl (lv_at hl 0 rfl) ?_
    refine va_get (D := (dC, dI)) (ci := 1) (v := .ref q4) (C := "FlashStore") (T := TF) (N := 6) hx hb hts inTF hown hK hP 0 rfl rfl 3 (by decide) w1 (fun _ h9 => h9) rfl d_F_take_12 ?_
    refine lv_iload_n hx hb d_F_take_15 rfl (lv_at hl 2 rfl) ?_
    refine va_iald hx hb hK hP 4 0 rfl rfl hi5 d_F_take_16 ?_
    obtain ⟨r17, hc17, hF⟩ := tx_b hF
    refine vp_callSi (W.runS (As := [.int a3, .int (tk a2.toNatClampNeg)]) (rest := []) ⟨hx, hb, hml, hown, hts⟩ (c_F_isNewer l a3 (tk a2.toNatClampNeg) r17 hc17) (va_cwS 2 hts (tg_S bq_1_111 bq_1_112 bq_1_1 bq_1_113) rfl rfl rfl (by decide +kernel) ⟨Nat.le_of_ble_eq_true rfl, Nat.le_of_ble_eq_true rfl⟩) ⟨tx_bl0, tx_pre0⟩ rfl rfl hl.1 rfl (lv_room (Nat.le_of_ble_eq_true rfl)) d_F_take_17 ⟨Nat.zero_le _, Nat.zero_le _⟩) (fun zz hz => ?_)
    subst hz
    refine lv_if_ne hx hb d_F_take_20 (tgt := 31) (by decide) (fun h20 => ?_) (fun h20 => ?_)
    · have hF := tx_f h20 hF
      exact J31 _ _ _ st pl tk a1 a2 a3 hP hD hS hl hF
    · have hF := tx_t h20 hF
      refine lv_aload_n hx hb d_F_take_23 rfl (lv_at hl 0 rfl) ?_
      refine va_get (D := (dC, dI)) (ci := 1) (v := .ref q2) (C := "FlashStore") (T := TF) (N := 6) hx hb hts inTF hown hK hP 0 rfl rfl 1 (by decide) w2 (fun _ h9 => h9) rfl d_F_take_24 ?_
      refine lv_iload_n hx hb d_F_take_27 rfl (lv_at hl 1 rfl) ?_
      refine lv_iconst (v := (2 : Int32)) hx hb d_F_take_28 (by decide) ?_
      obtain ⟨hi29, hF⟩ := tx_g hF
      refine va_iast hx hb hK hP hD hS 2 0 rfl rfl hi29 d_F_take_29 (fun H locs hP hD hS => ?_)
      have hP : va_P (dC, dI) vwCl (wF cA h0 q1 q2 q3 q4 q5 q6 (upd st a1.toNatClampNeg (2 : Int32)) pl tk wd er nx md) H := hP
      have hD : va_D A (wF cA h0 q1 q2 q3 q4 q5 q6 (upd st a1.toNatClampNeg (2 : Int32)) pl tk wd er nx md) := hD
      cases hF
      exact W.vret hx hb hr (fun t ht hW => ⟨⟨(), rfl, trivial, by rw [ht]; exact hP, hD⟩, hS.F ht⟩) hS.2.2 d_F_take_30
abbrev rm_F_countHeld : Room := { frames := 0, cells := 0, slots := 0, locals := 0 }
set_option maxHeartbeats 4000000 in
set_option maxRecDepth 100000 in
theorem c_F_countHeld (l : Launch) (dC : Nat → ClassId) (dI : Nat → Nat → Nat) (cA : ClassId) (h0 q1 q2 q3 q4 q5 q6 : Nat) (st pl tk wd er : Nat → Int32) (nx md : Int32)  (r : Int32)  (hF : f_F_countHeld pl = some r) : Met l y_F_countHeld ws_F_countHeld rm_F_countHeld (tx_PR [.ref h0] (dC, dI) [(cA, .int)] (wF cA h0 q1 q2 q3 q4 q5 q6 st pl tk wd er nx md)) (vp_Si (fun z => r = z)) 0 0 (fun _ => False) := by
  refine Met.ofW (cc := b_F_countHeld) (maxL := 3) (ret := some .int) (by decide +kernel) rfl ?_
  intro p e s m args below meth c s₁ B hml hv
  obtain ⟨hargs, hP, hK⟩ := hv
  have hx := B.exec
  have hb := B.bytes
  have hr := B.returns
  have hts := atoms_spec (ws := ws_F_countHeld) B.pre
  have hown : s.vm.findClass "FlashStore" = some m.cls := findClass_of_methodNamed B.named
  have hlocks := B.notSynchronized
  have w0 := (hts _ (List.mem_cons_of_mem _ bq_1_43))
  have hl := lv_entry ([.ref h0]) (n := 3) (Nat.le_of_ble_eq_true rfl)
  have hen : entryFrame m args 3 = _ := (congrArg (fun z => entryFrame m z 3) hargs).trans (lg_entry_eq m ([.ref h0]) 3)
  refine W.eq hen ?_
  clear hen
  generalize (lg_sl ([.ref h0]) ++ List.replicate (3 - (lg_sl ([.ref h0])).length) Slot.unset).toArray = ls at hl ⊢
  have hl : lv_has ls 3 [(0, .ref h0)] := hl
  have J26 : ∀ (rc : (Nat → Int32) → Int32 → Int32 → Option (Int32)) (hrec0 : ∀ (ls : Array Slot) (v1 : Int32) (v2 : Int32), lv_has ls 3 [(0, .ref h0), (1, .int v1), (2, .int v2)] → rc pl v1 v2 = some r → W p l e (headSpec ws_F_countHeld rm_F_countHeld).room s m args below meth c s.heap [] 0 0 (MQ below (vp_Si (fun z => r = z)) args s 0 0 (fun _ => False)) (F0 m 4 ls [])), ∀ (ls : Array Slot) (v2 : Int32) (z0 : Int32) (z1 : Int32), lv_has ls 3 [(0, .ref h0), (2, .int v2)] → f_F_countHeld_J26 rc pl v2 z0 z1 = some r → W p l e (headSpec ws_F_countHeld rm_F_countHeld).room s m args below meth c s.heap [] 0 0 (MQ below (vp_Si (fun z => r = z)) args s 0 0 (fun _ => False)) (F0 m 26 ls [.int z0, .int z1]) := by
    intro rc hrec0
    intro ls v2 z0 z1 hl hF
    have hF : (rc pl (z1 + z0) (v2 + (1 : Int32))) = some r := hF
    refine lv_iadd hx hb d_F_countHeld_26 ?_
    refine lv_istore_n hx hb d_F_countHeld_27 rfl hl (by decide) rfl (fun ls hl => ?_)
    have hl : lv_has ls 3 [(1, .int (z1 + z0)), (0, .ref h0), (2, .int v2)] := hl
    refine lv_iinc (k := 2) (v := (v2 + (1 : Int32))) hx hb d_F_countHeld_28 hl rfl rfl (by decide) rfl (fun ls hl => ?_)
    have hl : lv_has ls 3 [(2, .int (v2 + (1 : Int32))), (1, .int (z1 + z0)), (0, .ref h0)] := hl
    refine lv_goto hx hb d_F_countHeld_31 (tgt := 4) (by decide) ?_
    exact hrec0 _ (z1 + z0) (v2 + (1 : Int32)) (lv_sub hl [2, 1, 0] rfl) hF
  have LH : ∀ n : Nat, (∀ (ls : Array Slot) (v1 : Int32) (v2 : Int32), lv_has ls 3 [(0, .ref h0), (1, .int v1), (2, .int v2)] → f_F_countHeld_H n pl v1 v2 = some r → W p l e (headSpec ws_F_countHeld rm_F_countHeld).room s m args below meth c s.heap [] 0 0 (MQ below (vp_Si (fun z => r = z)) args s 0 0 (fun _ => False)) (F0 m 4 ls [])) := by
    intro n
    induction n with
    | zero =>
      exact (by intro ls v1 v2 hl hF; have hF : (none : Option (Int32)) = _ := hF; cases hF)
    | succ n ih =>
      have hrec0 := ih
      intro ls v1 v2 hl hF
      have hF : (if (8 : Int32) ≤ v2 then (some v1) else (if v2 < 0 ∨ 8 ≤ v2.toNatClampNeg then none else if (pl v2.toNatClampNeg) = (-1 : Int32) then (f_F_countHeld_J26 (f_F_countHeld_H n) pl v2 (0 : Int32) v1) else (f_F_countHeld_J26 (f_F_countHeld_H n) pl v2 (1 : Int32) v1))) = some r := hF
      refine lv_iload_n hx hb d_F_countHeld_4 rfl (lv_at hl 2 rfl) ?_
      refine lv_bipush (v := (8 : Int32)) hx hb d_F_countHeld_5 (by decide) ?_
      refine lv_icmp_ge hx hb d_F_countHeld_7 (tgt := 34) (by decide) (fun h7 => ?_) (fun h7 => ?_)
      · have hF := tx_t h7 hF
        refine lv_iload_n hx hb d_F_countHeld_34 rfl (lv_at hl 1 rfl) ?_
        exact W.iret hx hb hr (fun t ht hW => ⟨_, rfl, (Option.some.inj hF).symm, ht⟩) (fun q h => by cases h) d_F_countHeld_35
      · have hF := tx_f h7 hF
        refine lv_iload_n hx hb d_F_countHeld_10 rfl (lv_at hl 1 rfl) ?_
        refine lv_aload_n hx hb d_F_countHeld_11 rfl (lv_at hl 0 rfl) ?_
        refine va_get (D := (dC, dI)) (ci := 1) (v := .ref q3) (C := "FlashStore") (T := TF) (N := 6) hx hb hts inTF hown hK hP 0 rfl rfl 2 (by decide) w0 (fun _ h9 => h9) rfl d_F_countHeld_12 ?_
        refine lv_iload_n hx hb d_F_countHeld_15 rfl (lv_at hl 2 rfl) ?_
        obtain ⟨hi16, hF⟩ := tx_g hF
        refine va_iald hx hb hK hP 3 0 rfl rfl hi16 d_F_countHeld_16 ?_
        refine lv_iconst (v := (-1 : Int32)) hx hb d_F_countHeld_17 (by decide) ?_
        refine lv_icmp_eq hx hb d_F_countHeld_18 (tgt := 25) (by decide) (fun h18 => ?_) (fun h18 => ?_)
        · have hF := tx_t h18 hF
          refine lv_iconst (v := (0 : Int32)) hx hb d_F_countHeld_25 (by decide) ?_
          exact J26 _ hrec0 _ v2 (0 : Int32) v1 (lv_sub hl [0, 2] rfl) hF
        · have hF := tx_f h18 hF
          refine lv_iconst (v := (1 : Int32)) hx hb d_F_countHeld_21 (by decide) ?_
          refine lv_goto hx hb d_F_countHeld_22 (tgt := 26) (by decide) ?_
          exact J26 _ hrec0 _ v2 (1 : Int32) v1 (lv_sub hl [0, 2] rfl) hF
  obtain hrec0 := LH 100
  have hF : (f_F_countHeld_H 100 pl (0 : Int32) (0 : Int32)) = some r := hF
  refine lv_iconst (v := (0 : Int32)) hx hb d_F_countHeld_0 (by decide) ?_
  refine lv_istore_n hx hb d_F_countHeld_1 rfl hl (by decide) rfl (fun ls hl => ?_)
  have hl : lv_has ls 3 [(1, .int (0 : Int32)), (0, .ref h0)] := hl
  refine lv_iconst (v := (0 : Int32)) hx hb d_F_countHeld_2 (by decide) ?_
  refine lv_istore_n hx hb d_F_countHeld_3 rfl hl (by decide) rfl (fun ls hl => ?_)
  have hl : lv_has ls 3 [(2, .int (0 : Int32)), (1, .int (0 : Int32)), (0, .ref h0)] := hl
  exact hrec0 _ (0 : Int32) (0 : Int32) (lv_sub hl [2, 1, 0] rfl) hF
abbrev rm_F_logicalPageAt : Room := { frames := 0, cells := 0, slots := 0, locals := 0 }
set_option maxHeartbeats 4000000 in
set_option maxRecDepth 100000 in
theorem c_F_logicalPageAt (l : Launch) (dC : Nat → ClassId) (dI : Nat → Nat → Nat) (cA : ClassId) (h0 q1 q2 q3 q4 q5 q6 : Nat) (st pl tk wd er : Nat → Int32) (nx md : Int32) (a1 : Int32) (r : Int32)  (hF : f_F_logicalPageAt pl a1 = some r) : Met l y_F_logicalPageAt ws_F_logicalPageAt rm_F_logicalPageAt (tx_PR [.ref h0, .int a1] (dC, dI) [(cA, .int)] (wF cA h0 q1 q2 q3 q4 q5 q6 st pl tk wd er nx md)) (vp_Si (fun z => r = z)) 0 0 (fun _ => False) := by
  refine Met.ofW (cc := b_F_logicalPageAt) (maxL := 3) (ret := some .int) (by decide +kernel) rfl ?_
  intro p e s m args below meth c s₁ B hml hv
  obtain ⟨hargs, hP, hK⟩ := hv
  have hx := B.exec
  have hb := B.bytes
  have hr := B.returns
  have hts := atoms_spec (ws := ws_F_logicalPageAt) B.pre
  have hown : s.vm.findClass "FlashStore" = some m.cls := findClass_of_methodNamed B.named
  have hlocks := B.notSynchronized
  have w0 := (hts _ (List.mem_cons_of_mem _ bq_1_43))
  have hl := lv_entry ([.ref h0, .int a1]) (n := 3) (Nat.le_of_ble_eq_true rfl)
  have hen : entryFrame m args 3 = _ := (congrArg (fun z => entryFrame m z 3) hargs).trans (lg_entry_eq m ([.ref h0, .int a1]) 3)
  refine W.eq hen ?_
  clear hen
  generalize (lg_sl ([.ref h0, .int a1]) ++ List.replicate (3 - (lg_sl ([.ref h0, .int a1])).length) Slot.unset).toArray = ls at hl ⊢
  have hl : lv_has ls 3 [(0, .ref h0), (1, .int a1)] := hl
  have LH : ∀ n : Nat, (∀ (ls : Array Slot) (v1 : Int32) (v2 : Int32), lv_has ls 3 [(0, .ref h0), (1, .int v1), (2, .int v2)] → f_F_logicalPageAt_H n pl v1 v2 = some r → W p l e (headSpec ws_F_logicalPageAt rm_F_logicalPageAt).room s m args below meth c s.heap [] 0 0 (MQ below (vp_Si (fun z => r = z)) args s 0 0 (fun _ => False)) (F0 m 2 ls [])) := by
    intro n
    induction n with
    | zero =>
      exact (by intro ls v1 v2 hl hF; have hF : (none : Option (Int32)) = _ := hF; cases hF)
    | succ n ih =>
      have hrec0 := ih
      intro ls v1 v2 hl hF
      have hF : (if (8 : Int32) ≤ v2 then (some (-1 : Int32)) else (if v2 < 0 ∨ 8 ≤ v2.toNatClampNeg then none else if (pl v2.toNatClampNeg) = v1 then (some v2) else (f_F_logicalPageAt_H n pl v1 (v2 + (1 : Int32))))) = some r := hF
      refine lv_iload_n hx hb d_F_logicalPageAt_2 rfl (lv_at hl 2 rfl) ?_
      refine lv_bipush (v := (8 : Int32)) hx hb d_F_logicalPageAt_3 (by decide) ?_
      refine lv_icmp_ge hx hb d_F_logicalPageAt_5 (tgt := 26) (by decide) (fun h5 => ?_) (fun h5 => ?_)
      · have hF := tx_t h5 hF
        refine lv_iconst (v := (-1 : Int32)) hx hb d_F_logicalPageAt_26 (by decide) ?_
        exact W.iret hx hb hr (fun t ht hW => ⟨_, rfl, (Option.some.inj hF).symm, ht⟩) (fun q h => by cases h) d_F_logicalPageAt_27
      · have hF := tx_f h5 hF
        refine lv_aload_n hx hb d_F_logicalPageAt_8 rfl (lv_at hl 0 rfl) ?_
        refine va_get (D := (dC, dI)) (ci := 1) (v := .ref q3) (C := "FlashStore") (T := TF) (N := 6) hx hb hts inTF hown hK hP 0 rfl rfl 2 (by decide) w0 (fun _ h9 => h9) rfl d_F_logicalPageAt_9 ?_
        refine lv_iload_n hx hb d_F_logicalPageAt_12 rfl (lv_at hl 2 rfl) ?_
        obtain ⟨hi13, hF⟩ := tx_g hF
        refine va_iald hx hb hK hP 3 0 rfl rfl hi13 d_F_logicalPageAt_13 ?_
        refine lv_iload_n hx hb d_F_logicalPageAt_14 rfl (lv_at hl 1 rfl) ?_
        refine lv_icmp_ne hx hb d_F_logicalPageAt_15 (tgt := 20) (by decide) (fun h15 => ?_) (fun h15 => ?_)
        · have hF := tx_f h15 hF
          refine lv_iinc (k := 2) (v := (v2 + (1 : Int32))) hx hb d_F_logicalPageAt_20 hl rfl rfl (by decide) rfl (fun ls hl => ?_)
          have hl : lv_has ls 3 [(2, .int (v2 + (1 : Int32))), (0, .ref h0), (1, .int v1)] := hl
          refine lv_goto hx hb d_F_logicalPageAt_23 (tgt := 2) (by decide) ?_
          exact hrec0 _ v1 (v2 + (1 : Int32)) (lv_sub hl [1, 2, 0] rfl) hF
        · have hF := tx_t h15 hF
          refine lv_iload_n hx hb d_F_logicalPageAt_18 rfl (lv_at hl 2 rfl) ?_
          exact W.iret hx hb hr (fun t ht hW => ⟨_, rfl, (Option.some.inj hF).symm, ht⟩) (fun q h => by cases h) d_F_logicalPageAt_19
  obtain hrec0 := LH 100
  have hF : (f_F_logicalPageAt_H 100 pl a1 (0 : Int32)) = some r := hF
  refine lv_iconst (v := (0 : Int32)) hx hb d_F_logicalPageAt_0 (by decide) ?_
  refine lv_istore_n hx hb d_F_logicalPageAt_1 rfl hl (by decide) rfl (fun ls hl => ?_)
  have hl : lv_has ls 3 [(2, .int (0 : Int32)), (0, .ref h0), (1, .int a1)] := hl
  exact hrec0 _ a1 (0 : Int32) (lv_sub hl [1, 2, 0] rfl) hF
abbrev rm_F_countInBlock : Room := { frames := 1, cells := 0, slots := 0, locals := 21 }
set_option maxHeartbeats 4000000 in
set_option maxRecDepth 100000 in
theorem c_F_countInBlock (l : Launch) (dC : Nat → ClassId) (dI : Nat → Nat → Nat) (cA : ClassId) (h0 q1 q2 q3 q4 q5 q6 : Nat) (st pl tk wd er : Nat → Int32) (nx md : Int32) (a1 : Int32) (a2 : Int32) (r : Int32)  (hF : f_F_countInBlock st a1 a2 = some r) : Met l y_F_countInBlock ws_F_countInBlock rm_F_countInBlock (tx_PR [.ref h0, .int a1, .int a2] (dC, dI) [(cA, .int)] (wF cA h0 q1 q2 q3 q4 q5 q6 st pl tk wd er nx md)) (vp_Si (fun z => r = z)) 0 0 (fun _ => False) := by
  refine Met.ofW (cc := b_F_countInBlock) (maxL := 5) (ret := some .int) (by decide +kernel) rfl ?_
  intro p e s m args below meth c s₁ B hml hv
  obtain ⟨hargs, hP, hK⟩ := hv
  have hx := B.exec
  have hb := B.bytes
  have hr := B.returns
  have hts := atoms_spec (ws := ws_F_countInBlock) B.pre
  have hown : s.vm.findClass "FlashStore" = some m.cls := findClass_of_methodNamed B.named
  have hlocks := B.notSynchronized
  have w0 := (hts _ (List.mem_cons_of_mem _ bq_1_42))
  have hl := lv_entry ([.ref h0, .int a1, .int a2]) (n := 5) (Nat.le_of_ble_eq_true rfl)
  have hen : entryFrame m args 5 = _ := (congrArg (fun z => entryFrame m z 5) hargs).trans (lg_entry_eq m ([.ref h0, .int a1, .int a2]) 5)
  refine W.eq hen ?_
  clear hen
  generalize (lg_sl ([.ref h0, .int a1, .int a2]) ++ List.replicate (5 - (lg_sl ([.ref h0, .int a1, .int a2])).length) Slot.unset).toArray = ls at hl ⊢
  have hl : lv_has ls 5 [(0, .ref h0), (1, .int a1), (2, .int a2)] := hl
  have J32 : ∀ (rc : (Nat → Int32) → Int32 → Int32 → Int32 → Int32 → Option (Int32)) (hrec0 : ∀ (ls : Array Slot) (v1 : Int32) (v2 : Int32) (v3 : Int32) (v4 : Int32), lv_has ls 5 [(0, .ref h0), (1, .int v1), (2, .int v2), (3, .int v3), (4, .int v4)] → rc st v1 v2 v3 v4 = some r → W p l e (headSpec ws_F_countInBlock rm_F_countInBlock).room s m args below meth c s.heap [] 0 0 (MQ below (vp_Si (fun z => r = z)) args s 0 0 (fun _ => False)) (F0 m 5 ls [])), ∀ (ls : Array Slot) (v1 : Int32) (v2 : Int32) (v4 : Int32) (z0 : Int32) (z1 : Int32), lv_has ls 5 [(0, .ref h0), (1, .int v1), (2, .int v2), (4, .int v4)] → f_F_countInBlock_J32 rc st v1 v2 v4 z0 z1 = some r → W p l e (headSpec ws_F_countInBlock rm_F_countInBlock).room s m args below meth c s.heap [] 0 0 (MQ below (vp_Si (fun z => r = z)) args s 0 0 (fun _ => False)) (F0 m 32 ls [.int z0, .int z1]) := by
    intro rc hrec0
    intro ls v1 v2 v4 z0 z1 hl hF
    have hF : (rc st v1 v2 (z1 + z0) (v4 + (1 : Int32))) = some r := hF
    refine lv_iadd hx hb d_F_countInBlock_32 ?_
    refine lv_istore_n hx hb d_F_countInBlock_33 rfl hl (by decide) rfl (fun ls hl => ?_)
    have hl : lv_has ls 5 [(3, .int (z1 + z0)), (0, .ref h0), (1, .int v1), (2, .int v2), (4, .int v4)] := hl
    refine lv_iinc (k := 4) (v := (v4 + (1 : Int32))) hx hb d_F_countInBlock_34 hl rfl rfl (by decide) rfl (fun ls hl => ?_)
    have hl : lv_has ls 5 [(4, .int (v4 + (1 : Int32))), (3, .int (z1 + z0)), (0, .ref h0), (1, .int v1), (2, .int v2)] := hl
    refine lv_goto hx hb d_F_countInBlock_37 (tgt := 5) (by decide) ?_
    exact hrec0 _ v1 v2 (z1 + z0) (v4 + (1 : Int32)) (lv_sub hl [2, 3, 4, 1, 0] rfl) hF
  have LH : ∀ n : Nat, (∀ (ls : Array Slot) (v1 : Int32) (v2 : Int32) (v3 : Int32) (v4 : Int32), lv_has ls 5 [(0, .ref h0), (1, .int v1), (2, .int v2), (3, .int v3), (4, .int v4)] → f_F_countInBlock_H n st v1 v2 v3 v4 = some r → W p l e (headSpec ws_F_countInBlock rm_F_countInBlock).room s m args below meth c s.heap [] 0 0 (MQ below (vp_Si (fun z => r = z)) args s 0 0 (fun _ => False)) (F0 m 5 ls [])) := by
    intro n
    induction n with
    | zero =>
      exact (by intro ls v1 v2 v3 v4 hl hF; have hF : (none : Option (Int32)) = _ := hF; cases hF)
    | succ n ih =>
      have hrec0 := ih
      intro ls v1 v2 v3 v4 hl hF
      have hF : (if (4 : Int32) ≤ v4 then (some v3) else ((f_F_placeOf v1 v4).bind fun r19 => if r19 < 0 ∨ 16 ≤ r19.toNatClampNeg then none else if (st r19.toNatClampNeg) = v2 then (f_F_countInBlock_J32 (f_F_countInBlock_H n) st v1 v2 v4 (1 : Int32) v3) else (f_F_countInBlock_J32 (f_F_countInBlock_H n) st v1 v2 v4 (0 : Int32) v3))) = some r := hF
      refine lv_iload hx hb d_F_countInBlock_5 (lv_at hl 4 rfl) ?_
      refine lv_iconst (v := (4 : Int32)) hx hb d_F_countInBlock_7 (by decide) ?_
      refine lv_icmp_ge hx hb d_F_countInBlock_8 (tgt := 40) (by decide) (fun h8 => ?_) (fun h8 => ?_)
      · have hF := tx_t h8 hF
        refine lv_iload_n hx hb d_F_countInBlock_40 rfl (lv_at hl 3 rfl) ?_
        exact W.iret hx hb hr (fun t ht hW => ⟨_, rfl, (Option.some.inj hF).symm, ht⟩) (fun q h => by cases h) d_F_countInBlock_41
      · have hF := tx_f h8 hF
        refine lv_iload_n hx hb d_F_countInBlock_11 rfl (lv_at hl 3 rfl) ?_
        refine lv_aload_n hx hb d_F_countInBlock_12 rfl (lv_at hl 0 rfl) ?_
        refine va_get (D := (dC, dI)) (ci := 1) (v := .ref q2) (C := "FlashStore") (T := TF) (N := 6) hx hb hts inTF hown hK hP 0 rfl rfl 1 (by decide) w0 (fun _ h9 => h9) rfl d_F_countInBlock_13 ?_
        refine lv_iload_n hx hb d_F_countInBlock_16 rfl (lv_at hl 1 rfl) ?_
        refine lv_iload hx hb d_F_countInBlock_17 (lv_at hl 4 rfl) ?_
        obtain ⟨r19, hc19, hF⟩ := tx_b hF
        refine vp_callSi (W.runS (As := [.int v1, .int v4]) (rest := [.ref q2, .int v3]) ⟨hx, hb, hml, hown, hts⟩ (c_F_placeOf l v1 v4 r19 hc19) (va_cwS 2 hts (tg_S bq_2_34 bq_2_35 bq_1_1 bq_2_36) rfl rfl rfl (by decide +kernel) ⟨Nat.le_of_ble_eq_true rfl, Nat.le_of_ble_eq_true rfl⟩) ⟨tx_bl0, tx_pre0⟩ rfl rfl hl.1 rfl (lv_room (Nat.le_of_ble_eq_true rfl)) d_F_countInBlock_19 ⟨Nat.zero_le _, Nat.zero_le _⟩) (fun zz hz => ?_)
        subst hz
        obtain ⟨hi22, hF⟩ := tx_g hF
        refine va_iald hx hb hK hP 2 0 rfl rfl hi22 d_F_countInBlock_22 ?_
        refine lv_iload_n hx hb d_F_countInBlock_23 rfl (lv_at hl 2 rfl) ?_
        refine lv_icmp_ne hx hb d_F_countInBlock_24 (tgt := 31) (by decide) (fun h24 => ?_) (fun h24 => ?_)
        · have hF := tx_f h24 hF
          refine lv_iconst (v := (0 : Int32)) hx hb d_F_countInBlock_31 (by decide) ?_
          exact J32 _ hrec0 _ v1 v2 v4 (0 : Int32) v3 (lv_sub hl [0, 1, 2, 4] rfl) hF
        · have hF := tx_t h24 hF
          refine lv_iconst (v := (1 : Int32)) hx hb d_F_countInBlock_27 (by decide) ?_
          refine lv_goto hx hb d_F_countInBlock_28 (tgt := 32) (by decide) ?_
          exact J32 _ hrec0 _ v1 v2 v4 (1 : Int32) v3 (lv_sub hl [0, 1, 2, 4] rfl) hF
  obtain hrec0 := LH 100
  have hF : (f_F_countInBlock_H 100 st a1 a2 (0 : Int32) (0 : Int32)) = some r := hF
  refine lv_iconst (v := (0 : Int32)) hx hb d_F_countInBlock_0 (by decide) ?_
  refine lv_istore_n hx hb d_F_countInBlock_1 rfl hl (by decide) rfl (fun ls hl => ?_)
  have hl : lv_has ls 5 [(3, .int (0 : Int32)), (0, .ref h0), (1, .int a1), (2, .int a2)] := hl
  refine lv_iconst (v := (0 : Int32)) hx hb d_F_countInBlock_2 (by decide) ?_
  refine lv_istore hx hb d_F_countInBlock_3 hl (by decide) rfl (fun ls hl => ?_)
  have hl : lv_has ls 5 [(4, .int (0 : Int32)), (3, .int (0 : Int32)), (0, .ref h0), (1, .int a1), (2, .int a2)] := hl
  exact hrec0 _ a1 a2 (0 : Int32) (0 : Int32) (lv_sub hl [2, 3, 4, 1, 0] rfl) hF
