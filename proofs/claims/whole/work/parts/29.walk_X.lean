abbrev rx_F_requireLogicalPage : Room := { frames := 6, cells := 1, slots := 6, locals := 110 }
set_option maxHeartbeats 4000000 in
set_option maxRecDepth 100000 in
theorem cx_F_requireLogicalPage (l : Launch) (a1 : Int32) (xk : Nat) (hF : x_F_requireLogicalPage a1 = some xk) (hfl : l.flags = pinnedFlags ++ [noTraceFlag]) : MetX l y_F_requireLogicalPage ws_F_requireLogicalPage rx_F_requireLogicalPage (va_Pc [.int a1] tx_E) (tx_Q (tx_names.getD xk "")) 1 6 (fun _ => False) := by
  refine MetX.ofW (cc := b_F_requireLogicalPage) (maxL := 1) (ret := none) (by decide +kernel) rfl ?_
  intro p e s m args below meth c s₁ B hml hv
  obtain ⟨hargs, hE⟩ := hv
  have hx := B.exec
  have hb := B.bytes
  have hr := B.returns
  have hts := atoms_spec (ws := ws_F_requireLogicalPage) B.pre
  have hown : s.vm.findClass "FlashStore" = some m.cls := findClass_of_methodNamed B.named
  have hlocks := B.notSynchronized
  have hnoh := B.noHandlers (hts _ List.mem_cons_self)
  have w0 := (hts _ (List.mem_cons_of_mem _ bq_1_144))
  have w1 := (hts _ (List.mem_cons_of_mem _ bq_1_8))
  have hl := lv_entry ([.int a1]) (n := 1) (Nat.le_of_ble_eq_true rfl)
  have hen : entryFrame m args 1 = _ := (congrArg (fun z => entryFrame m z 1) hargs).trans (lg_entry_eq m ([.int a1]) 1)
  refine W.eq hen ?_
  clear hen
  generalize (lg_sl ([.int a1]) ++ List.replicate (1 - (lg_sl ([.int a1])).length) Slot.unset).toArray = ls at hl ⊢
  have hl : lv_has ls 1 [(0, .int a1)] := hl
  have J10 : ∀ (ls : Array Slot), lv_has ls 1 [] → x_F_requireLogicalPage_J10  = some xk → W p l e (headSpec ws_F_requireLogicalPage rx_F_requireLogicalPage).room s m args below meth c s.heap [] 0 0 (MX below (tx_Q (tx_names.getD xk "")) args s 1 6 (fun _ => False)) (F0 m 10 ls []) := by
    intro ls hl hF
    have hF : (some 0) = some xk := hF
    cases hF
    obtain ⟨qs, hqs⟩ := hE.1 (154, "there is no such logical page") (by decide)
    exact tx_throw hx hb hfl hown (by decide) (by decide) w0 w1 hqs (tx_own_0 hts hE) (tx_noh hnoh _) (hl.1.trans hml.symm) hlocks d_F_requireLogicalPage_10 d_F_requireLogicalPage_13 d_F_requireLogicalPage_14 d_F_requireLogicalPage_16 d_F_requireLogicalPage_19 (Nat.le_of_ble_eq_true rfl) (Nat.le_of_ble_eq_true rfl) (Nat.le_of_ble_eq_true rfl) (Nat.le_of_ble_eq_true rfl)
  have hF : (if a1 < 0 then (x_F_requireLogicalPage_J10 ) else (if a1 < (8 : Int32) then (none) else (x_F_requireLogicalPage_J10 ))) = some xk := hF
  refine lv_iload_n hx hb d_F_requireLogicalPage_0 rfl (lv_at hl 0 rfl) ?_
  refine lv_if_lt hx hb d_F_requireLogicalPage_1 (tgt := 10) (by decide) (fun h1 => ?_) (fun h1 => ?_)
  · have hF := tx_t h1 hF
    exact J10 _ (lv_sub hl [] rfl) hF
  · have hF := tx_f h1 hF
    refine lv_iload_n hx hb d_F_requireLogicalPage_4 rfl (lv_at hl 0 rfl) ?_
    refine lv_bipush (v := (8 : Int32)) hx hb d_F_requireLogicalPage_5 (by decide) ?_
    refine lv_icmp_lt hx hb d_F_requireLogicalPage_7 (tgt := 20) (by decide) (fun h7 => ?_) (fun h7 => ?_)
    · have hF := tx_t h7 hF
      cases hF
    · have hF := tx_f h7 hF
      exact J10 _ (lv_sub hl [] rfl) hF
abbrev rx_F_requireBlock : Room := { frames := 6, cells := 1, slots := 6, locals := 110 }
set_option maxHeartbeats 4000000 in
set_option maxRecDepth 100000 in
theorem cx_F_requireBlock (l : Launch) (a1 : Int32) (xk : Nat) (hF : x_F_requireBlock a1 = some xk) (hfl : l.flags = pinnedFlags ++ [noTraceFlag]) : MetX l y_F_requireBlock ws_F_requireBlock rx_F_requireBlock (va_Pc [.int a1] tx_E) (tx_Q (tx_names.getD xk "")) 1 6 (fun _ => False) := by
  refine MetX.ofW (cc := b_F_requireBlock) (maxL := 1) (ret := none) (by decide +kernel) rfl ?_
  intro p e s m args below meth c s₁ B hml hv
  obtain ⟨hargs, hE⟩ := hv
  have hx := B.exec
  have hb := B.bytes
  have hr := B.returns
  have hts := atoms_spec (ws := ws_F_requireBlock) B.pre
  have hown : s.vm.findClass "FlashStore" = some m.cls := findClass_of_methodNamed B.named
  have hlocks := B.notSynchronized
  have hnoh := B.noHandlers (hts _ List.mem_cons_self)
  have w0 := (hts _ (List.mem_cons_of_mem _ bq_1_144))
  have w1 := (hts _ (List.mem_cons_of_mem _ bq_1_8))
  have hl := lv_entry ([.int a1]) (n := 1) (Nat.le_of_ble_eq_true rfl)
  have hen : entryFrame m args 1 = _ := (congrArg (fun z => entryFrame m z 1) hargs).trans (lg_entry_eq m ([.int a1]) 1)
  refine W.eq hen ?_
  clear hen
  generalize (lg_sl ([.int a1]) ++ List.replicate (1 - (lg_sl ([.int a1])).length) Slot.unset).toArray = ls at hl ⊢
  have hl : lv_has ls 1 [(0, .int a1)] := hl
  have J9 : ∀ (ls : Array Slot), lv_has ls 1 [] → x_F_requireBlock_J9  = some xk → W p l e (headSpec ws_F_requireBlock rx_F_requireBlock).room s m args below meth c s.heap [] 0 0 (MX below (tx_Q (tx_names.getD xk "")) args s 1 6 (fun _ => False)) (F0 m 9 ls []) := by
    intro ls hl hF
    have hF : (some 0) = some xk := hF
    cases hF
    obtain ⟨qs, hqs⟩ := hE.1 (156, "there is no such block") (by decide)
    exact tx_throw hx hb hfl hown (by decide) (by decide) w0 w1 hqs (tx_own_0 hts hE) (tx_noh hnoh _) (hl.1.trans hml.symm) hlocks d_F_requireBlock_9 d_F_requireBlock_12 d_F_requireBlock_13 d_F_requireBlock_15 d_F_requireBlock_18 (Nat.le_of_ble_eq_true rfl) (Nat.le_of_ble_eq_true rfl) (Nat.le_of_ble_eq_true rfl) (Nat.le_of_ble_eq_true rfl)
  have hF : (if a1 < 0 then (x_F_requireBlock_J9 ) else (if a1 < (4 : Int32) then (none) else (x_F_requireBlock_J9 ))) = some xk := hF
  refine lv_iload_n hx hb d_F_requireBlock_0 rfl (lv_at hl 0 rfl) ?_
  refine lv_if_lt hx hb d_F_requireBlock_1 (tgt := 9) (by decide) (fun h1 => ?_) (fun h1 => ?_)
  · have hF := tx_t h1 hF
    exact J9 _ (lv_sub hl [] rfl) hF
  · have hF := tx_f h1 hF
    refine lv_iload_n hx hb d_F_requireBlock_4 rfl (lv_at hl 0 rfl) ?_
    refine lv_iconst (v := (4 : Int32)) hx hb d_F_requireBlock_5 (by decide) ?_
    refine lv_icmp_lt hx hb d_F_requireBlock_6 (tgt := 19) (by decide) (fun h6 => ?_) (fun h6 => ?_)
    · have hF := tx_t h6 hF
      cases hF
    · have hF := tx_f h6 hF
      exact J9 _ (lv_sub hl [] rfl) hF
abbrev rx_F_requirePageOfBlock : Room := { frames := 6, cells := 1, slots := 6, locals := 110 }
set_option maxHeartbeats 4000000 in
set_option maxRecDepth 100000 in
theorem cx_F_requirePageOfBlock (l : Launch) (a1 : Int32) (xk : Nat) (hF : x_F_requirePageOfBlock a1 = some xk) (hfl : l.flags = pinnedFlags ++ [noTraceFlag]) : MetX l y_F_requirePageOfBlock ws_F_requirePageOfBlock rx_F_requirePageOfBlock (va_Pc [.int a1] tx_E) (tx_Q (tx_names.getD xk "")) 1 6 (fun _ => False) := by
  refine MetX.ofW (cc := b_F_requirePageOfBlock) (maxL := 1) (ret := none) (by decide +kernel) rfl ?_
  intro p e s m args below meth c s₁ B hml hv
  obtain ⟨hargs, hE⟩ := hv
  have hx := B.exec
  have hb := B.bytes
  have hr := B.returns
  have hts := atoms_spec (ws := ws_F_requirePageOfBlock) B.pre
  have hown : s.vm.findClass "FlashStore" = some m.cls := findClass_of_methodNamed B.named
  have hlocks := B.notSynchronized
  have hnoh := B.noHandlers (hts _ List.mem_cons_self)
  have w0 := (hts _ (List.mem_cons_of_mem _ bq_1_144))
  have w1 := (hts _ (List.mem_cons_of_mem _ bq_1_8))
  have hl := lv_entry ([.int a1]) (n := 1) (Nat.le_of_ble_eq_true rfl)
  have hen : entryFrame m args 1 = _ := (congrArg (fun z => entryFrame m z 1) hargs).trans (lg_entry_eq m ([.int a1]) 1)
  refine W.eq hen ?_
  clear hen
  generalize (lg_sl ([.int a1]) ++ List.replicate (1 - (lg_sl ([.int a1])).length) Slot.unset).toArray = ls at hl ⊢
  have hl : lv_has ls 1 [(0, .int a1)] := hl
  have J9 : ∀ (ls : Array Slot), lv_has ls 1 [] → x_F_requirePageOfBlock_J9  = some xk → W p l e (headSpec ws_F_requirePageOfBlock rx_F_requirePageOfBlock).room s m args below meth c s.heap [] 0 0 (MX below (tx_Q (tx_names.getD xk "")) args s 1 6 (fun _ => False)) (F0 m 9 ls []) := by
    intro ls hl hF
    have hF : (some 0) = some xk := hF
    cases hF
    obtain ⟨qs, hqs⟩ := hE.1 (158, "there is no such page of a block") (by decide)
    exact tx_throw hx hb hfl hown (by decide) (by decide) w0 w1 hqs (tx_own_0 hts hE) (tx_noh hnoh _) (hl.1.trans hml.symm) hlocks d_F_requirePageOfBlock_9 d_F_requirePageOfBlock_12 d_F_requirePageOfBlock_13 d_F_requirePageOfBlock_15 d_F_requirePageOfBlock_18 (Nat.le_of_ble_eq_true rfl) (Nat.le_of_ble_eq_true rfl) (Nat.le_of_ble_eq_true rfl) (Nat.le_of_ble_eq_true rfl)
  have hF : (if a1 < 0 then (x_F_requirePageOfBlock_J9 ) else (if a1 < (4 : Int32) then (none) else (x_F_requirePageOfBlock_J9 ))) = some xk := hF
  refine lv_iload_n hx hb d_F_requirePageOfBlock_0 rfl (lv_at hl 0 rfl) ?_
  refine lv_if_lt hx hb d_F_requirePageOfBlock_1 (tgt := 9) (by decide) (fun h1 => ?_) (fun h1 => ?_)
  · have hF := tx_t h1 hF
    exact J9 _ (lv_sub hl [] rfl) hF
  · have hF := tx_f h1 hF
    refine lv_iload_n hx hb d_F_requirePageOfBlock_4 rfl (lv_at hl 0 rfl) ?_
    refine lv_iconst (v := (4 : Int32)) hx hb d_F_requirePageOfBlock_5 (by decide) ?_
    refine lv_icmp_lt hx hb d_F_requirePageOfBlock_6 (tgt := 19) (by decide) (fun h6 => ?_) (fun h6 => ?_)
    · have hF := tx_t h6 hF
      cases hF
    · have hF := tx_f h6 hF
      exact J9 _ (lv_sub hl [] rfl) hF
abbrev rx_F_requireWord : Room := { frames := 7, cells := 1, slots := 6, locals := 130 }
set_option maxHeartbeats 4000000 in
set_option maxRecDepth 100000 in
theorem cx_F_requireWord (l : Launch) (a1 : Int32) (a2 : Int32) (a3 : Int32) (xk : Nat) (hF : x_F_requireWord a1 a2 a3 = some xk) (hfl : l.flags = pinnedFlags ++ [noTraceFlag]) : MetX l y_F_requireWord ws_F_requireWord rx_F_requireWord (va_Pc [.int a1, .int a2, .int a3] tx_E) (tx_Q (tx_names.getD xk "")) 1 6 (fun _ => False) := by
  refine MetX.ofW (cc := b_F_requireWord) (maxL := 3) (ret := none) (by decide +kernel) rfl ?_
  intro p e s m args below meth c s₁ B hml hv
  obtain ⟨hargs, hE⟩ := hv
  have hx := B.exec
  have hb := B.bytes
  have hr := B.returns
  have hts := atoms_spec (ws := ws_F_requireWord) B.pre
  have hown : s.vm.findClass "FlashStore" = some m.cls := findClass_of_methodNamed B.named
  have hlocks := B.notSynchronized
  have hnoh := B.noHandlers (hts _ List.mem_cons_self)
  have w0 := (hts _ (List.mem_cons_of_mem _ bq_1_144))
  have w1 := (hts _ (List.mem_cons_of_mem _ bq_1_8))
  have hl := lv_entry ([.int a1, .int a2, .int a3]) (n := 3) (Nat.le_of_ble_eq_true rfl)
  have hen : entryFrame m args 3 = _ := (congrArg (fun z => entryFrame m z 3) hargs).trans (lg_entry_eq m ([.int a1, .int a2, .int a3]) 3)
  refine W.eq hen ?_
  clear hen
  generalize (lg_sl ([.int a1, .int a2, .int a3]) ++ List.replicate (3 - (lg_sl ([.int a1, .int a2, .int a3])).length) Slot.unset).toArray = ls at hl ⊢
  have hl : lv_has ls 3 [(0, .int a1), (1, .int a2), (2, .int a3)] := hl
  have J17 : ∀ (ls : Array Slot), lv_has ls 3 [] → x_F_requireWord_J17  = some xk → W p l e (headSpec ws_F_requireWord rx_F_requireWord).room s m args below meth c s.heap [] 0 0 (MX below (tx_Q (tx_names.getD xk "")) args s 1 6 (fun _ => False)) (F0 m 17 ls []) := by
    intro ls hl hF
    have hF : (some 0) = some xk := hF
    cases hF
    obtain ⟨qs, hqs⟩ := hE.1 (160, "there is no such word of a page") (by decide)
    exact tx_throw hx hb hfl hown (by decide) (by decide) w0 w1 hqs (tx_own_0 hts hE) (tx_noh hnoh _) (hl.1.trans hml.symm) hlocks d_F_requireWord_17 d_F_requireWord_20 d_F_requireWord_21 d_F_requireWord_23 d_F_requireWord_26 (Nat.le_of_ble_eq_true rfl) (Nat.le_of_ble_eq_true rfl) (Nat.le_of_ble_eq_true rfl) (Nat.le_of_ble_eq_true rfl)
  have hF : ((x_F_requireBlock a1).elim ((f_F_requireBlock a1).bind fun _ => (x_F_requirePageOfBlock a2).elim ((f_F_requirePageOfBlock a2).bind fun _ => if a3 < 0 then (x_F_requireWord_J17 ) else (if a3 < (5 : Int32) then (none) else (x_F_requireWord_J17 ))) some) some) = some xk := hF
  refine lv_iload_n hx hb d_F_requireWord_0 rfl (lv_at hl 0 rfl) ?_
  rcases tx_or hF with hX | hF
  · exact tx_callS (As := [.int a1]) (rest := []) ⟨hx, hb, hml, hown, hts⟩ (cx_F_requireBlock l a1 _ hX hfl) (va_cwS 1 hts (tg_S bq_2_134 bq_2_135 bq_1_1 bq_2_136) rfl rfl rfl (by decide +kernel) ⟨Nat.le_of_ble_eq_true rfl, Nat.le_of_ble_eq_true rfl⟩) ⟨tx_blE, tx_preE hE⟩ rfl hl.1 (lv_room (Nat.le_of_ble_eq_true rfl)) d_F_requireWord_1 ⟨Nat.le_of_ble_eq_true rfl, Nat.le_of_ble_eq_true rfl⟩ (tx_noh hnoh _) hlocks rfl
  · obtain ⟨_u, hc1, hF⟩ := tx_b hF
    refine va_csv (W.runS (As := [.int a1]) (rest := []) ⟨hx, hb, hml, hown, hts⟩ (c_F_requireBlock l a1 _u hc1) (va_cwS 1 hts (tg_S bq_2_134 bq_2_135 bq_1_1 bq_2_136) rfl rfl rfl (by decide +kernel) ⟨Nat.le_of_ble_eq_true rfl, Nat.le_of_ble_eq_true rfl⟩) ⟨tx_bl0, tx_pre0⟩ rfl rfl hl.1 rfl (lv_room (Nat.le_of_ble_eq_true rfl)) d_F_requireWord_1 ⟨Nat.zero_le _, Nat.zero_le _⟩) (fun _ => ?_)
    refine lv_iload_n hx hb d_F_requireWord_4 rfl (lv_at hl 1 rfl) ?_
    rcases tx_or hF with hX | hF
    · exact tx_callS (As := [.int a2]) (rest := []) ⟨hx, hb, hml, hown, hts⟩ (cx_F_requirePageOfBlock l a2 _ hX hfl) (va_cwS 1 hts (tg_S bq_2_138 bq_2_139 bq_1_1 bq_2_140) rfl rfl rfl (by decide +kernel) ⟨Nat.le_of_ble_eq_true rfl, Nat.le_of_ble_eq_true rfl⟩) ⟨tx_blE, tx_preE hE⟩ rfl hl.1 (lv_room (Nat.le_of_ble_eq_true rfl)) d_F_requireWord_5 ⟨Nat.le_of_ble_eq_true rfl, Nat.le_of_ble_eq_true rfl⟩ (tx_noh hnoh _) hlocks rfl
    · obtain ⟨_u, hc5, hF⟩ := tx_b hF
      refine va_csv (W.runS (As := [.int a2]) (rest := []) ⟨hx, hb, hml, hown, hts⟩ (c_F_requirePageOfBlock l a2 _u hc5) (va_cwS 1 hts (tg_S bq_2_138 bq_2_139 bq_1_1 bq_2_140) rfl rfl rfl (by decide +kernel) ⟨Nat.le_of_ble_eq_true rfl, Nat.le_of_ble_eq_true rfl⟩) ⟨tx_bl0, tx_pre0⟩ rfl rfl hl.1 rfl (lv_room (Nat.le_of_ble_eq_true rfl)) d_F_requireWord_5 ⟨Nat.zero_le _, Nat.zero_le _⟩) (fun _ => ?_)
      refine lv_iload_n hx hb d_F_requireWord_8 rfl (lv_at hl 2 rfl) ?_
      refine lv_if_lt hx hb d_F_requireWord_9 (tgt := 17) (by decide) (fun h9 => ?_) (fun h9 => ?_)
      · have hF := tx_t h9 hF
        exact J17 _ (lv_sub hl [] rfl) hF
      · have hF := tx_f h9 hF
        refine lv_iload_n hx hb d_F_requireWord_12 rfl (lv_at hl 2 rfl) ?_
        refine lv_iconst (v := (5 : Int32)) hx hb d_F_requireWord_13 (by decide) ?_
        refine lv_icmp_lt hx hb d_F_requireWord_14 (tgt := 27) (by decide) (fun h14 => ?_) (fun h14 => ?_)
        · have hF := tx_t h14 hF
          cases hF
        · have hF := tx_f h14 hF
          exact J17 _ (lv_sub hl [] rfl) hF
abbrev rx_F_encode : Room := { frames := 6, cells := 1, slots := 6, locals := 110 }
set_option maxHeartbeats 4000000 in
set_option maxRecDepth 100000 in
theorem cx_F_encode (l : Launch) (dC : Nat → ClassId) (dI : Nat → Nat → Nat) (cA : ClassId) (h0 q1 q2 q3 q4 q5 q6 : Nat) (st pl tk wd er : Nat → Int32) (nx md : Int32) (a1 : Int32) (xk : Nat) (hF : x_F_encode a1 = some xk) (hfl : l.flags = pinnedFlags ++ [noTraceFlag]) : MetX l y_F_encode ws_F_encode rx_F_encode (tx_PX [.ref h0, .int a1] (dC, dI) [(cA, .int)] (wF cA h0 q1 q2 q3 q4 q5 q6 st pl tk wd er nx md)) (tx_Q (tx_names.getD xk "")) 1 6 (fun _ => False) := by
  refine MetX.ofW (cc := b_F_encode) (maxL := 2) (ret := some .int) (by decide +kernel) rfl ?_
  intro p e s m args below meth c s₁ B hml hv
  obtain ⟨hargs, hP, hK, hE⟩ := hv
  have hx := B.exec
  have hb := B.bytes
  have hr := B.returns
  have hts := atoms_spec (ws := ws_F_encode) B.pre
  have hown : s.vm.findClass "FlashStore" = some m.cls := findClass_of_methodNamed B.named
  have hlocks := B.notSynchronized
  have hnoh := B.noHandlers (hts _ List.mem_cons_self)
  have w0 := hts (.constant "FlashStore" 41 (65535 : Int32)) (by decide +kernel)
  have w1 := (hts _ (List.mem_cons_of_mem _ bq_1_144))
  have w2 := (hts _ (List.mem_cons_of_mem _ bq_1_8))
  have hl := lv_entry ([.ref h0, .int a1]) (n := 2) (Nat.le_of_ble_eq_true rfl)
  have hen : entryFrame m args 2 = _ := (congrArg (fun z => entryFrame m z 2) hargs).trans (lg_entry_eq m ([.ref h0, .int a1]) 2)
  refine W.eq hen ?_
  clear hen
  generalize (lg_sl ([.ref h0, .int a1]) ++ List.replicate (2 - (lg_sl ([.ref h0, .int a1])).length) Slot.unset).toArray = ls at hl ⊢
  have hl : lv_has ls 2 [(0, .ref h0), (1, .int a1)] := hl
  have J10 : ∀ (ls : Array Slot), lv_has ls 2 [] → x_F_encode_J10  = some xk → W p l e (headSpec ws_F_encode rx_F_encode).room s m args below meth c s.heap [] 0 0 (MX below (tx_Q (tx_names.getD xk "")) args s 1 6 (fun _ => False)) (F0 m 10 ls []) := by
    intro ls hl hF
    have hF : (some 0) = some xk := hF
    cases hF
    obtain ⟨qs, hqs⟩ := hE.1 (44, "data is not 0 .. 65535") (by decide)
    exact tx_throw hx hb hfl hown (by decide) (by decide) w1 w2 hqs (tx_own_0 hts hE) (tx_noh hnoh _) (hl.1.trans hml.symm) hlocks d_F_encode_10 d_F_encode_13 d_F_encode_14 d_F_encode_16 d_F_encode_19 (Nat.le_of_ble_eq_true rfl) (Nat.le_of_ble_eq_true rfl) (Nat.le_of_ble_eq_true rfl) (Nat.le_of_ble_eq_true rfl)
  have hF : (if a1 < 0 then (x_F_encode_J10 ) else (if a1 ≤ (65535 : Int32) then ((f_C_codewordOf a1).bind fun r21 => none) else (x_F_encode_J10 ))) = some xk := hF
  refine lv_iload_n hx hb d_F_encode_0 rfl (lv_at hl 1 rfl) ?_
  refine lv_if_lt hx hb d_F_encode_1 (tgt := 10) (by decide) (fun h1 => ?_) (fun h1 => ?_)
  · have hF := tx_t h1 hF
    exact J10 _ (lv_sub hl [] rfl) hF
  · have hF := tx_f h1 hF
    refine lv_iload_n hx hb d_F_encode_4 rfl (lv_at hl 1 rfl) ?_
    refine lv_ldc hx hb hown w0 d_F_encode_5 ?_
    refine lv_icmp_le hx hb d_F_encode_7 (tgt := 20) (by decide) (fun h7 => ?_) (fun h7 => ?_)
    · have hF := tx_t h7 hF
      refine lv_iload_n hx hb d_F_encode_20 rfl (lv_at hl 1 rfl) ?_
      obtain ⟨r21, hc21, hF⟩ := tx_b hF
      refine vp_callSi (W.runS (As := [.int a1]) (rest := []) ⟨hx, hb, hml, hown, hts⟩ (c_C_codewordOf l a1 r21 hc21) (va_cwS 1 hts (tg_S bq_1_212 bq_1_213 bq_1_9 bq_1_214) rfl rfl rfl (by decide +kernel) ⟨Nat.le_of_ble_eq_true rfl, Nat.le_of_ble_eq_true rfl⟩) ⟨tx_bl0, tx_pre0⟩ rfl rfl hl.1 rfl (lv_room (Nat.le_of_ble_eq_true rfl)) d_F_encode_21 ⟨Nat.zero_le _, Nat.zero_le _⟩) (fun zz hz => ?_)
      subst hz
      cases hF
    · have hF := tx_f h7 hF
      exact J10 _ (lv_sub hl [] rfl) hF
abbrev rx_F_decode : Room := { frames := 6, cells := 1, slots := 6, locals := 110 }
set_option maxHeartbeats 4000000 in
set_option maxRecDepth 100000 in
theorem cx_F_decode (l : Launch) (dC : Nat → ClassId) (dI : Nat → Nat → Nat) (cA : ClassId) (h0 q1 q2 q3 q4 q5 q6 : Nat) (st pl tk wd er : Nat → Int32) (nx md : Int32) (a1 : Int32) (xk : Nat) (hF : x_F_decode a1 = some xk) (hfl : l.flags = pinnedFlags ++ [noTraceFlag]) : MetX l y_F_decode ws_F_decode rx_F_decode (tx_PX [.ref h0, .int a1] (dC, dI) [(cA, .int)] (wF cA h0 q1 q2 q3 q4 q5 q6 st pl tk wd er nx md)) (tx_Q (tx_names.getD xk "")) 1 6 (fun _ => False) := by
  refine MetX.ofW (cc := b_F_decode) (maxL := 3) (ret := some .int) (by decide +kernel) rfl ?_
  intro p e s m args below meth c s₁ B hml hv
  obtain ⟨hargs, hP, hK, hE⟩ := hv
  have hx := B.exec
  have hb := B.bytes
  have hr := B.returns
  have hts := atoms_spec (ws := ws_F_decode) B.pre
  have hown : s.vm.findClass "FlashStore" = some m.cls := findClass_of_methodNamed B.named
  have hlocks := B.notSynchronized
  have hnoh := B.noHandlers (hts _ List.mem_cons_self)
  have w0 := (hts _ (List.mem_cons_of_mem _ bq_1_225))
  have w1 := (hts _ (List.mem_cons_of_mem _ bq_1_11))
  have w2 := (hts _ (List.mem_cons_of_mem _ bq_1_144))
  have w3 := (hts _ (List.mem_cons_of_mem _ bq_1_8))
  have hl := lv_entry ([.ref h0, .int a1]) (n := 3) (Nat.le_of_ble_eq_true rfl)
  have hen : entryFrame m args 3 = _ := (congrArg (fun z => entryFrame m z 3) hargs).trans (lg_entry_eq m ([.ref h0, .int a1]) 3)
  refine W.eq hen ?_
  clear hen
  generalize (lg_sl ([.ref h0, .int a1]) ++ List.replicate (3 - (lg_sl ([.ref h0, .int a1])).length) Slot.unset).toArray = ls at hl ⊢
  have hl : lv_has ls 3 [(0, .ref h0), (1, .int a1)] := hl
  have hF : (if 0 ≤ a1 then ((f_C_mend a1).bind fun r15 => if r15 = (-1 : Int32) then (some 2) else ((f_U_bitCount (a1 ^^^ r15)).bind fun r38 => none)) else (some 0)) = some xk := hF
  refine lv_iload_n hx hb d_F_decode_0 rfl (lv_at hl 1 rfl) ?_
  refine lv_if_ge hx hb d_F_decode_1 (tgt := 14) (by decide) (fun h1 => ?_) (fun h1 => ?_)
  · have hF := tx_t h1 hF
    refine lv_iload_n hx hb d_F_decode_14 rfl (lv_at hl 1 rfl) ?_
    obtain ⟨r15, hc15, hF⟩ := tx_b hF
    refine vp_callSi (W.runS (As := [.int a1]) (rest := []) ⟨hx, hb, hml, hown, hts⟩ (c_C_mend l a1 r15 hc15) (va_cwS 1 hts (tg_S bq_1_224 bq_1_77 bq_1_9 bq_1_78) rfl rfl rfl (by decide +kernel) ⟨Nat.le_of_ble_eq_true rfl, Nat.le_of_ble_eq_true rfl⟩) ⟨tx_bl0, tx_pre0⟩ rfl rfl hl.1 rfl (lv_room (Nat.le_of_ble_eq_true rfl)) d_F_decode_15 ⟨Nat.zero_le _, Nat.zero_le _⟩) (fun zz hz => ?_)
    subst hz
    refine lv_istore_n hx hb d_F_decode_18 rfl hl (by decide) rfl (fun ls hl => ?_)
    have hl : lv_has ls 3 [(2, .int r15), (0, .ref h0), (1, .int a1)] := hl
    refine lv_iload_n hx hb d_F_decode_19 rfl (lv_at hl 0 rfl) ?_
    refine lv_iconst (v := (-1 : Int32)) hx hb d_F_decode_20 (by decide) ?_
    refine lv_icmp_ne hx hb d_F_decode_21 (tgt := 34) (by decide) (fun h21 => ?_) (fun h21 => ?_)
    · have hF := tx_f h21 hF
      refine lv_aload_n hx hb d_F_decode_34 rfl (lv_at hl 1 rfl) ?_
      refine lv_iload_n hx hb d_F_decode_35 rfl (lv_at hl 2 rfl) ?_
      refine lv_iload_n hx hb d_F_decode_36 rfl (lv_at hl 0 rfl) ?_
      refine lv_ixor hx hb d_F_decode_37 ?_
      obtain ⟨r38, hc38, hF⟩ := tx_b hF
      refine vp_callSi (W.runS (As := [.int (a1 ^^^ r15)]) (rest := [.ref h0]) ⟨hx, hb, hml, hown, hts⟩ (c_U_bitCount l (a1 ^^^ r15) r38 hc38) (va_cwS 1 hts (tg_S bq_2_1 bq_1_91 bq_1_10 bq_1_92) rfl rfl rfl (by decide +kernel) ⟨Nat.le_of_ble_eq_true rfl, Nat.le_of_ble_eq_true rfl⟩) ⟨tx_bl0, tx_pre0⟩ rfl rfl hl.1 rfl (lv_room (Nat.le_of_ble_eq_true rfl)) d_F_decode_38 ⟨Nat.zero_le _, Nat.zero_le _⟩) (fun zz hz => ?_)
      subst hz
      cases hF
    · have hF := tx_t h21 hF
      cases hF
      obtain ⟨qs, hqs⟩ := hE.1 (60, "the word is lost") (by decide)
      exact tx_throw hx hb hfl hown (by decide) (by decide) w0 w1 hqs (tx_own_2 hts hE) (tx_noh hnoh _) (hl.1.trans hml.symm) hlocks d_F_decode_24 d_F_decode_27 d_F_decode_28 d_F_decode_30 d_F_decode_33 (Nat.le_of_ble_eq_true rfl) (Nat.le_of_ble_eq_true rfl) (Nat.le_of_ble_eq_true rfl) (Nat.le_of_ble_eq_true rfl)
  · have hF := tx_f h1 hF
    cases hF
    obtain ⟨qs, hqs⟩ := hE.1 (53, "a word has 31 bits") (by decide)
    exact tx_throw hx hb hfl hown (by decide) (by decide) w2 w3 hqs (tx_own_0 hts hE) (tx_noh hnoh _) (hl.1.trans hml.symm) hlocks d_F_decode_4 d_F_decode_7 d_F_decode_8 d_F_decode_10 d_F_decode_13 (Nat.le_of_ble_eq_true rfl) (Nat.le_of_ble_eq_true rfl) (Nat.le_of_ble_eq_true rfl) (Nat.le_of_ble_eq_true rfl)
abbrev rx_F_write : Room := { frames := 7, cells := 1, slots := 6, locals := 159 }
set_option maxHeartbeats 4000000 in
set_option maxRecDepth 100000 in
theorem cx_F_write (l : Launch) (dC : Nat → ClassId) (dI : Nat → Nat → Nat) (cA : ClassId) (h0 q1 q2 q3 q4 q5 q6 : Nat) (st pl tk wd er : Nat → Int32) (nx md : Int32) (a1 : Int32) (a2 : Int64) (xk : Nat) (hF : x_F_write st pl wd er nx a1 a2 = some xk) (hfl : l.flags = pinnedFlags ++ [noTraceFlag]) : MetX l y_F_write ws_F_write rx_F_write (tx_PX [.ref h0, .int a1, .long a2] (dC, dI) [(cA, .int)] (wF cA h0 q1 q2 q3 q4 q5 q6 st pl tk wd er nx md)) (tx_Q (tx_names.getD xk "")) 1 6 (fun _ => False) := by
  refine MetX.ofW (cc := b_F_write) (maxL := 6) (ret := none) (by decide +kernel) rfl ?_
  intro p e s m args below meth c s₁ B hml hv
  obtain ⟨hargs, hP, hK, hE⟩ := hv
  have hx := B.exec
  have hb := B.bytes
  have hr := B.returns
  have hts := atoms_spec (ws := ws_F_write) B.pre
  have hown : s.vm.findClass "FlashStore" = some m.cls := findClass_of_methodNamed B.named
  have hlocks := B.notSynchronized
  have hnoh := B.noHandlers (hts _ List.mem_cons_self)
  have w0 := (hts _ (List.mem_cons_of_mem _ bq_2_57))
  have w1 := (hts _ (List.mem_cons_of_mem _ bq_1_12))
  have hl := lv_entry ([.ref h0, .int a1, .long a2]) (n := 6) (Nat.le_of_ble_eq_true rfl)
  have hen : entryFrame m args 6 = _ := (congrArg (fun z => entryFrame m z 6) hargs).trans (lg_entry_eq m ([.ref h0, .int a1, .long a2]) 6)
  refine W.eq hen ?_
  clear hen
  generalize (lg_sl ([.ref h0, .int a1, .long a2]) ++ List.replicate (6 - (lg_sl ([.ref h0, .int a1, .long a2])).length) Slot.unset).toArray = ls at hl ⊢
  have hl : lv_has ls 6 [(0, .ref h0), (1, .int a1), (2, .long a2)] := hl
  have J55 : ∀ (rc : (Nat → Int32) → (Nat → Int32) → (Nat → Int32) → (Nat → Int32) → Int32 → Int32 → Int64 → Int32 → Option (Nat)) (hrec0 : ∀ (ls : Array Slot) (v1 : Int32) (v2 : Int64) (v4 : Int32), lv_has ls 6 [(0, .ref h0), (1, .int v1), (2, .long v2), (4, .int v4)] → rc st pl wd er nx v1 v2 v4 = some xk → W p l e (headSpec ws_F_write rx_F_write).room s m args below meth c s.heap [] 0 0 (MX below (tx_Q (tx_names.getD xk "")) args s 1 6 (fun _ => False)) (F0 m 7 ls [])), ∀ (ls : Array Slot) (v1 : Int32) (v2 : Int64), lv_has ls 6 [(0, .ref h0), (1, .int v1), (2, .long v2)] → x_F_write_J55 rc st pl wd er nx v1 v2 = some xk → W p l e (headSpec ws_F_write rx_F_write).room s m args below meth c s.heap [] 0 0 (MX below (tx_Q (tx_names.getD xk "")) args s 1 6 (fun _ => False)) (F0 m 55 ls []) := by
    intro rc hrec0
    intro ls v1 v2 hl hF
    have hF : (none) = some xk := hF
    refine lv_aload_n hx hb d_F_write_55 rfl (lv_at hl 0 rfl) ?_
    refine lv_iload_n hx hb d_F_write_56 rfl (lv_at hl 1 rfl) ?_
    refine lv_lload_n hx hb d_F_write_57 rfl (lv_at hl 2 rfl) ?_
    refine lv_iconst (v := (-1 : Int32)) hx hb d_F_write_58 (by decide) ?_
    cases hF
  have LH : ∀ n : Nat, (∀ (ls : Array Slot) (v1 : Int32) (v2 : Int64) (v4 : Int32), lv_has ls 6 [(0, .ref h0), (1, .int v1), (2, .long v2), (4, .int v4)] → x_F_write_H n st pl wd er nx v1 v2 v4 = some xk → W p l e (headSpec ws_F_write rx_F_write).room s m args below meth c s.heap [] 0 0 (MX below (tx_Q (tx_names.getD xk "")) args s 1 6 (fun _ => False)) (F0 m 7 ls [])) := by
    intro n
    induction n with
    | zero =>
      exact (by intro ls v1 v2 v4 hl hF; have hF : (none : Option (Nat)) = _ := hF; cases hF)
    | succ n ih =>
      have hrec0 := ih
      intro ls v1 v2 v4 hl hF
      have hF : (if (16 : Int32) ≤ v4 then (x_F_write_J55 (x_F_write_H n) st pl wd er nx v1 v2) else ((f_F_leavesBlockFree st).bind fun r15 => if r15 = 0 then ((f_F_blockToClean st er).bind fun r22 => if r22 = (-1 : Int32) then (some 1) else (none)) else (x_F_write_J55 (x_F_write_H n) st pl wd er nx v1 v2))) = some xk := hF
      refine lv_iload hx hb d_F_write_7 (lv_at hl 3 rfl) ?_
      refine lv_bipush (v := (16 : Int32)) hx hb d_F_write_9 (by decide) ?_
      refine lv_icmp_ge hx hb d_F_write_11 (tgt := 55) (by decide) (fun h11 => ?_) (fun h11 => ?_)
      · have hF := tx_t h11 hF
        exact J55 _ hrec0 _ v1 v2 (lv_sub hl [0, 1, 2] rfl) hF
      · have hF := tx_f h11 hF
        refine lv_aload_n hx hb d_F_write_14 rfl (lv_at hl 0 rfl) ?_
        obtain ⟨r15, hc15, hF⟩ := tx_b hF
        refine vp_callSi (W.runV (As := []) (rest := []) ⟨hx, hb, hml, hown, hts⟩ (c_F_leavesBlockFree l dC dI cA h0 q1 q2 q3 q4 q5 q6 st pl tk wd er nx md r15 hc15) (cwV 0 hts (tg_V bq_2_15 bq_2_17 bq_s_5 bq_1_1 bq_2_18) rfl rfl rfl (by decide +kernel) ⟨Nat.le_of_ble_eq_true rfl, Nat.le_of_ble_eq_true rfl⟩) ⟨tx_blR, (va_recv (ci := 1) (q0 := 0) hK hP rfl rfl), tx_preR (hP) hK⟩ rfl rfl hl.1 rfl (lv_room (Nat.le_of_ble_eq_true rfl)) d_F_write_15 ⟨Nat.zero_le _, Nat.zero_le _⟩) (fun zz hz => ?_)
        subst hz
        refine lv_if_ne hx hb d_F_write_18 (tgt := 55) (by decide) (fun h18 => ?_) (fun h18 => ?_)
        · have hF := tx_f h18 hF
          exact J55 _ hrec0 _ v1 v2 (lv_sub hl [0, 1, 2] rfl) hF
        · have hF := tx_t h18 hF
          refine lv_aload_n hx hb d_F_write_21 rfl (lv_at hl 0 rfl) ?_
          obtain ⟨r22, hc22, hF⟩ := tx_b hF
          refine vp_callSi (W.runV (As := []) (rest := []) ⟨hx, hb, hml, hown, hts⟩ (c_F_blockToClean l dC dI cA h0 q1 q2 q3 q4 q5 q6 st pl tk wd er nx md r22 hc22) (cwV 0 hts (tg_V bq_2_37 bq_2_39 bq_s_9 bq_1_1 bq_2_40) rfl rfl rfl (by decide +kernel) ⟨Nat.le_of_ble_eq_true rfl, Nat.le_of_ble_eq_true rfl⟩) ⟨tx_blR, (va_recv (ci := 1) (q0 := 0) hK hP rfl rfl), tx_preR (hP) hK⟩ rfl rfl hl.1 rfl (lv_room (Nat.le_of_ble_eq_true rfl)) d_F_write_22 ⟨Nat.zero_le _, Nat.zero_le _⟩) (fun zz hz => ?_)
          subst hz
          refine lv_istore hx hb d_F_write_25 hl (by decide) rfl (fun ls hl => ?_)
          have hl : lv_has ls 6 [(5, .int r22), (0, .ref h0), (1, .int v1), (2, .long v2), (4, .int v4)] := hl
          refine lv_iload hx hb d_F_write_27 (lv_at hl 0 rfl) ?_
          refine lv_iconst (v := (-1 : Int32)) hx hb d_F_write_29 (by decide) ?_
          refine lv_icmp_ne hx hb d_F_write_30 (tgt := 43) (by decide) (fun h30 => ?_) (fun h30 => ?_)
          · have hF := tx_f h30 hF
            refine lv_aload_n hx hb d_F_write_43 rfl (lv_at hl 1 rfl) ?_
            refine lv_iload hx hb d_F_write_44 (lv_at hl 0 rfl) ?_
            cases hF
          · have hF := tx_t h30 hF
            cases hF
            obtain ⟨qs, hqs⟩ := hE.1 (85, "the store is full") (by decide)
            exact tx_throw hx hb hfl hown (by decide) (by decide) w0 w1 hqs (tx_own_1 hts hE) (tx_noh hnoh _) (hl.1.trans hml.symm) hlocks d_F_write_33 d_F_write_36 d_F_write_37 d_F_write_39 d_F_write_42 (Nat.le_of_ble_eq_true rfl) (Nat.le_of_ble_eq_true rfl) (Nat.le_of_ble_eq_true rfl) (Nat.le_of_ble_eq_true rfl)
  obtain hrec0 := LH 100
  have hF : ((x_F_requireLogicalPage a1).elim ((f_F_requireLogicalPage a1).bind fun _ => x_F_write_H 100 st pl wd er nx a1 a2 (0 : Int32)) some) = some xk := hF
  refine lv_iload_n hx hb d_F_write_0 rfl (lv_at hl 1 rfl) ?_
  rcases tx_or hF with hX | hF
  · exact tx_callS (As := [.int a1]) (rest := []) ⟨hx, hb, hml, hown, hts⟩ (cx_F_requireLogicalPage l a1 _ hX hfl) (va_cwS 1 hts (tg_S bq_2_11 bq_2_12 bq_1_1 bq_2_13) rfl rfl rfl (by decide +kernel) ⟨Nat.le_of_ble_eq_true rfl, Nat.le_of_ble_eq_true rfl⟩) ⟨tx_blE, tx_preE hE⟩ rfl hl.1 (lv_room (Nat.le_of_ble_eq_true rfl)) d_F_write_1 ⟨Nat.le_of_ble_eq_true rfl, Nat.le_of_ble_eq_true rfl⟩ (tx_noh hnoh _) hlocks rfl
  · obtain ⟨_u, hc1, hF⟩ := tx_b hF
    refine va_csv (W.runS (As := [.int a1]) (rest := []) ⟨hx, hb, hml, hown, hts⟩ (c_F_requireLogicalPage l a1 _u hc1) (va_cwS 1 hts (tg_S bq_2_11 bq_2_12 bq_1_1 bq_2_13) rfl rfl rfl (by decide +kernel) ⟨Nat.le_of_ble_eq_true rfl, Nat.le_of_ble_eq_true rfl⟩) ⟨tx_bl0, tx_pre0⟩ rfl rfl hl.1 rfl (lv_room (Nat.le_of_ble_eq_true rfl)) d_F_write_1 ⟨Nat.zero_le _, Nat.zero_le _⟩) (fun _ => ?_)
    refine lv_iconst (v := (0 : Int32)) hx hb d_F_write_4 (by decide) ?_
    refine lv_istore hx hb d_F_write_5 hl (by decide) rfl (fun ls hl => ?_)
    have hl : lv_has ls 6 [(4, .int (0 : Int32)), (0, .ref h0), (1, .int a1), (2, .long a2)] := hl
    exact hrec0 _ a1 a2 (0 : Int32) (lv_sub hl [1, 2, 3, 0] rfl) hF
abbrev rx_F_read : Room := { frames := 7, cells := 1, slots := 6, locals := 130 }
set_option maxHeartbeats 4000000 in
set_option maxRecDepth 100000 in
theorem cx_F_read (l : Launch) (dC : Nat → ClassId) (dI : Nat → Nat → Nat) (cA : ClassId) (h0 q1 q2 q3 q4 q5 q6 : Nat) (st pl tk wd er : Nat → Int32) (nx md : Int32) (a1 : Int32) (xk : Nat) (hF : x_F_read pl wd a1 = some xk) (hfl : l.flags = pinnedFlags ++ [noTraceFlag]) : MetX l y_F_read ws_F_read rx_F_read (tx_PX [.ref h0, .int a1] (dC, dI) [(cA, .int)] (wF cA h0 q1 q2 q3 q4 q5 q6 st pl tk wd er nx md)) (tx_Q (tx_names.getD xk "")) 1 6 (fun _ => False) := by
  refine MetX.ofW (cc := b_F_read) (maxL := 3) (ret := some .long) (by decide +kernel) rfl ?_
  intro p e s m args below meth c s₁ B hml hv
  obtain ⟨hargs, hP, hK, hE⟩ := hv
  have hx := B.exec
  have hb := B.bytes
  have hr := B.returns
  have hts := atoms_spec (ws := ws_F_read) B.pre
  have hown : s.vm.findClass "FlashStore" = some m.cls := findClass_of_methodNamed B.named
  have hlocks := B.notSynchronized
  have hnoh := B.noHandlers (hts _ List.mem_cons_self)
  have w0 := (hts _ (List.mem_cons_of_mem _ bq_1_43))
  have w1 := (hts _ (List.mem_cons_of_mem _ bq_1_41))
  have w2 := (hts _ (List.mem_cons_of_mem _ bq_1_225))
  have w3 := (hts _ (List.mem_cons_of_mem _ bq_1_11))
  have w4 := (hts _ (List.mem_cons_of_mem _ bq_2_57))
  have w5 := (hts _ (List.mem_cons_of_mem _ bq_1_12))
  have hl := lv_entry ([.ref h0, .int a1]) (n := 3) (Nat.le_of_ble_eq_true rfl)
  have hen : entryFrame m args 3 = _ := (congrArg (fun z => entryFrame m z 3) hargs).trans (lg_entry_eq m ([.ref h0, .int a1]) 3)
  refine W.eq hen ?_
  clear hen
  generalize (lg_sl ([.ref h0, .int a1]) ++ List.replicate (3 - (lg_sl ([.ref h0, .int a1])).length) Slot.unset).toArray = ls at hl ⊢
  have hl : lv_has ls 3 [(0, .ref h0), (1, .int a1)] := hl
  have hF : ((x_F_requireLogicalPage a1).elim ((f_F_requireLogicalPage a1).bind fun _ => if a1 < 0 ∨ 8 ≤ a1.toNatClampNeg then none else if (pl a1.toNatClampNeg) = (-1 : Int32) then (some 1) else ((f_M_isReadable wd (pl a1.toNatClampNeg)).bind fun r31 => if r31 = 0 then (some 2) else ((f_M_contentAt wd (pl a1.toNatClampNeg)).bind fun r52 => none))) some) = some xk := hF
  refine lv_iload_n hx hb d_F_read_0 rfl (lv_at hl 1 rfl) ?_
  rcases tx_or hF with hX | hF
  · exact tx_callS (As := [.int a1]) (rest := []) ⟨hx, hb, hml, hown, hts⟩ (cx_F_requireLogicalPage l a1 _ hX hfl) (va_cwS 1 hts (tg_S bq_2_11 bq_2_12 bq_1_1 bq_2_13) rfl rfl rfl (by decide +kernel) ⟨Nat.le_of_ble_eq_true rfl, Nat.le_of_ble_eq_true rfl⟩) ⟨tx_blE, tx_preE hE⟩ rfl hl.1 (lv_room (Nat.le_of_ble_eq_true rfl)) d_F_read_1 ⟨Nat.le_of_ble_eq_true rfl, Nat.le_of_ble_eq_true rfl⟩ (tx_noh hnoh _) hlocks rfl
  · obtain ⟨_u, hc1, hF⟩ := tx_b hF
    refine va_csv (W.runS (As := [.int a1]) (rest := []) ⟨hx, hb, hml, hown, hts⟩ (c_F_requireLogicalPage l a1 _u hc1) (va_cwS 1 hts (tg_S bq_2_11 bq_2_12 bq_1_1 bq_2_13) rfl rfl rfl (by decide +kernel) ⟨Nat.le_of_ble_eq_true rfl, Nat.le_of_ble_eq_true rfl⟩) ⟨tx_bl0, tx_pre0⟩ rfl rfl hl.1 rfl (lv_room (Nat.le_of_ble_eq_true rfl)) d_F_read_1 ⟨Nat.zero_le _, Nat.zero_le _⟩) (fun _ => ?_)
    refine lv_aload_n hx hb d_F_read_4 rfl (lv_at hl 0 rfl) ?_
    refine va_get (D := (dC, dI)) (ci := 1) (v := .ref q3) (C := "FlashStore") (T := TF) (N := 6) hx hb hts inTF hown hK hP 0 rfl rfl 2 (by decide) w0 (fun _ h9 => h9) rfl d_F_read_5 ?_
    refine lv_iload_n hx hb d_F_read_8 rfl (lv_at hl 1 rfl) ?_
    obtain ⟨hi9, hF⟩ := tx_g hF
    refine va_iald hx hb hK hP 3 0 rfl rfl hi9 d_F_read_9 ?_
    refine lv_istore_n hx hb d_F_read_10 rfl hl (by decide) rfl (fun ls hl => ?_)
    have hl : lv_has ls 3 [(2, .int (pl a1.toNatClampNeg)), (0, .ref h0), (1, .int a1)] := hl
    refine lv_iload_n hx hb d_F_read_11 rfl (lv_at hl 0 rfl) ?_
    refine lv_iconst (v := (-1 : Int32)) hx hb d_F_read_12 (by decide) ?_
    refine lv_icmp_ne hx hb d_F_read_13 (tgt := 26) (by decide) (fun h13 => ?_) (fun h13 => ?_)
    · have hF := tx_f h13 hF
      refine lv_aload_n hx hb d_F_read_26 rfl (lv_at hl 1 rfl) ?_
      refine va_get (D := (dC, dI)) (ci := 1) (v := .ref q1) (C := "FlashStore") (T := TF) (N := 6) hx hb hts inTF hown hK hP 0 rfl rfl 0 (by decide) w1 (fun _ h9 => h9) rfl d_F_read_27 ?_
      refine lv_iload_n hx hb d_F_read_30 rfl (lv_at hl 0 rfl) ?_
      obtain ⟨r31, hc31, hF⟩ := tx_b hF
      refine vp_callSi (W.runV (As := [.int (pl a1.toNatClampNeg)]) (rest := []) ⟨hx, hb, hml, hown, hts⟩ (c_M_isReadable l dC dI cA q1 q5 q6 wd er (pl a1.toNatClampNeg) r31 hc31) (cwV 1 hts (tg_V bq_2_85 bq_2_86 bq_2_87 bq_1_2 bq_2_88) rfl rfl rfl (by decide +kernel) ⟨Nat.le_of_ble_eq_true rfl, Nat.le_of_ble_eq_true rfl⟩) ⟨tx_blR, (va_recv (ci := 0) (q0 := 1) hK hP rfl rfl), tx_preR (hP.sub (ws' := (wM cA q1 q5 q6 wd er)) [1, 5, 6] rfl) hK⟩ rfl rfl hl.1 rfl (lv_room (Nat.le_of_ble_eq_true rfl)) d_F_read_31 ⟨Nat.zero_le _, Nat.zero_le _⟩) (fun zz hz => ?_)
      subst hz
      refine lv_if_ne hx hb d_F_read_34 (tgt := 47) (by decide) (fun h34 => ?_) (fun h34 => ?_)
      · have hF := tx_f h34 hF
        refine lv_aload_n hx hb d_F_read_47 rfl (lv_at hl 1 rfl) ?_
        refine va_get (D := (dC, dI)) (ci := 1) (v := .ref q1) (C := "FlashStore") (T := TF) (N := 6) hx hb hts inTF hown hK hP 0 rfl rfl 0 (by decide) w1 (fun _ h9 => h9) rfl d_F_read_48 ?_
        refine lv_iload_n hx hb d_F_read_51 rfl (lv_at hl 0 rfl) ?_
        obtain ⟨r52, hc52, hF⟩ := tx_b hF
        refine vp_callSl (W.runV (As := [.int (pl a1.toNatClampNeg)]) (rest := []) ⟨hx, hb, hml, hown, hts⟩ (c_M_contentAt l dC dI cA q1 q5 q6 wd er (pl a1.toNatClampNeg) r52 hc52) (cwV 1 hts (tg_V bq_2_89 bq_2_90 bq_2_91 bq_1_2 bq_2_92) rfl rfl rfl (by decide +kernel) ⟨Nat.le_of_ble_eq_true rfl, Nat.le_of_ble_eq_true rfl⟩) ⟨tx_blR, (va_recv (ci := 0) (q0 := 1) hK hP rfl rfl), tx_preR (hP.sub (ws' := (wM cA q1 q5 q6 wd er)) [1, 5, 6] rfl) hK⟩ rfl rfl hl.1 rfl (lv_room (Nat.le_of_ble_eq_true rfl)) d_F_read_52 ⟨Nat.zero_le _, Nat.zero_le _⟩) (fun zz hz => ?_)
        subst hz
        cases hF
      · have hF := tx_t h34 hF
        cases hF
        obtain ⟨qs, hqs⟩ := hE.1 (101, "a word of the page is lost") (by decide)
        exact tx_throw hx hb hfl hown (by decide) (by decide) w2 w3 hqs (tx_own_2 hts hE) (tx_noh hnoh _) (hl.1.trans hml.symm) hlocks d_F_read_37 d_F_read_40 d_F_read_41 d_F_read_43 d_F_read_46 (Nat.le_of_ble_eq_true rfl) (Nat.le_of_ble_eq_true rfl) (Nat.le_of_ble_eq_true rfl) (Nat.le_of_ble_eq_true rfl)
    · have hF := tx_t h13 hF
      cases hF
      obtain ⟨qs, hqs⟩ := hE.1 (95, "the logical page has nothing") (by decide)
      exact tx_throw hx hb hfl hown (by decide) (by decide) w4 w5 hqs (tx_own_1 hts hE) (tx_noh hnoh _) (hl.1.trans hml.symm) hlocks d_F_read_16 d_F_read_19 d_F_read_20 d_F_read_22 d_F_read_25 (Nat.le_of_ble_eq_true rfl) (Nat.le_of_ble_eq_true rfl) (Nat.le_of_ble_eq_true rfl) (Nat.le_of_ble_eq_true rfl)
abbrev rx_F_trim : Room := { frames := 7, cells := 1, slots := 6, locals := 130 }
set_option maxHeartbeats 4000000 in
set_option maxRecDepth 100000 in
theorem cx_F_trim (l : Launch) (dC : Nat → ClassId) (dI : Nat → Nat → Nat) (cA : ClassId) (h0 q1 q2 q3 q4 q5 q6 : Nat) (st pl tk wd er : Nat → Int32) (nx md : Int32) (a1 : Int32) (xk : Nat) (hF : x_F_trim pl a1 = some xk) (hfl : l.flags = pinnedFlags ++ [noTraceFlag]) : MetX l y_F_trim ws_F_trim rx_F_trim (tx_PX [.ref h0, .int a1] (dC, dI) [(cA, .int)] (wF cA h0 q1 q2 q3 q4 q5 q6 st pl tk wd er nx md)) (tx_Q (tx_names.getD xk "")) 1 6 (fun _ => False) := by
  refine MetX.ofW (cc := b_F_trim) (maxL := 3) (ret := some .boolean) (by decide +kernel) rfl ?_
  intro p e s m args below meth c s₁ B hml hv
  obtain ⟨hargs, hP, hK, hE⟩ := hv
  have hx := B.exec
  have hb := B.bytes
  have hr := B.returns
  have hts := atoms_spec (ws := ws_F_trim) B.pre
  have hown : s.vm.findClass "FlashStore" = some m.cls := findClass_of_methodNamed B.named
  have hlocks := B.notSynchronized
  have hnoh := B.noHandlers (hts _ List.mem_cons_self)
  have w0 := (hts _ (List.mem_cons_of_mem _ bq_1_43))
  have hl := lv_entry ([.ref h0, .int a1]) (n := 3) (Nat.le_of_ble_eq_true rfl)
  have hen : entryFrame m args 3 = _ := (congrArg (fun z => entryFrame m z 3) hargs).trans (lg_entry_eq m ([.ref h0, .int a1]) 3)
  refine W.eq hen ?_
  clear hen
  generalize (lg_sl ([.ref h0, .int a1]) ++ List.replicate (3 - (lg_sl ([.ref h0, .int a1])).length) Slot.unset).toArray = ls at hl ⊢
  have hl : lv_has ls 3 [(0, .ref h0), (1, .int a1)] := hl
  have J19 : ∀ (ls : Array Slot) (v1 : Int32) (z0 : Int32), lv_has ls 3 [(0, .ref h0), (1, .int v1)] → x_F_trim_J19 pl v1 z0 = some xk → W p l e (headSpec ws_F_trim rx_F_trim).room s m args below meth c s.heap [] 0 0 (MX below (tx_Q (tx_names.getD xk "")) args s 1 6 (fun _ => False)) (F0 m 19 ls [.int z0]) := by
    intro ls v1 z0 hl hF
    have hF : (none) = some xk := hF
    refine lv_istore_n hx hb d_F_trim_19 rfl hl (by decide) rfl (fun ls hl => ?_)
    have hl : lv_has ls 3 [(2, .int z0), (0, .ref h0), (1, .int v1)] := hl
    refine lv_aload_n hx hb d_F_trim_20 rfl (lv_at hl 1 rfl) ?_
    refine lv_iload_n hx hb d_F_trim_21 rfl (lv_at hl 2 rfl) ?_
    cases hF
  have hF : ((x_F_requireLogicalPage a1).elim ((f_F_requireLogicalPage a1).bind fun _ => if a1 < 0 ∨ 8 ≤ a1.toNatClampNeg then none else if (pl a1.toNatClampNeg) = (-1 : Int32) then (x_F_trim_J19 pl a1 (0 : Int32)) else (x_F_trim_J19 pl a1 (1 : Int32))) some) = some xk := hF
  refine lv_iload_n hx hb d_F_trim_0 rfl (lv_at hl 1 rfl) ?_
  rcases tx_or hF with hX | hF
  · exact tx_callS (As := [.int a1]) (rest := []) ⟨hx, hb, hml, hown, hts⟩ (cx_F_requireLogicalPage l a1 _ hX hfl) (va_cwS 1 hts (tg_S bq_2_11 bq_2_12 bq_1_1 bq_2_13) rfl rfl rfl (by decide +kernel) ⟨Nat.le_of_ble_eq_true rfl, Nat.le_of_ble_eq_true rfl⟩) ⟨tx_blE, tx_preE hE⟩ rfl hl.1 (lv_room (Nat.le_of_ble_eq_true rfl)) d_F_trim_1 ⟨Nat.le_of_ble_eq_true rfl, Nat.le_of_ble_eq_true rfl⟩ (tx_noh hnoh _) hlocks rfl
  · obtain ⟨_u, hc1, hF⟩ := tx_b hF
    refine va_csv (W.runS (As := [.int a1]) (rest := []) ⟨hx, hb, hml, hown, hts⟩ (c_F_requireLogicalPage l a1 _u hc1) (va_cwS 1 hts (tg_S bq_2_11 bq_2_12 bq_1_1 bq_2_13) rfl rfl rfl (by decide +kernel) ⟨Nat.le_of_ble_eq_true rfl, Nat.le_of_ble_eq_true rfl⟩) ⟨tx_bl0, tx_pre0⟩ rfl rfl hl.1 rfl (lv_room (Nat.le_of_ble_eq_true rfl)) d_F_trim_1 ⟨Nat.zero_le _, Nat.zero_le _⟩) (fun _ => ?_)
    refine lv_aload_n hx hb d_F_trim_4 rfl (lv_at hl 0 rfl) ?_
    refine va_get (D := (dC, dI)) (ci := 1) (v := .ref q3) (C := "FlashStore") (T := TF) (N := 6) hx hb hts inTF hown hK hP 0 rfl rfl 2 (by decide) w0 (fun _ h9 => h9) rfl d_F_trim_5 ?_
    refine lv_iload_n hx hb d_F_trim_8 rfl (lv_at hl 1 rfl) ?_
    obtain ⟨hi9, hF⟩ := tx_g hF
    refine va_iald hx hb hK hP 3 0 rfl rfl hi9 d_F_trim_9 ?_
    refine lv_iconst (v := (-1 : Int32)) hx hb d_F_trim_10 (by decide) ?_
    refine lv_icmp_eq hx hb d_F_trim_11 (tgt := 18) (by decide) (fun h11 => ?_) (fun h11 => ?_)
    · have hF := tx_t h11 hF
      refine lv_iconst (v := (0 : Int32)) hx hb d_F_trim_18 (by decide) ?_
      exact J19 _ a1 (0 : Int32) hl hF
    · have hF := tx_f h11 hF
      refine lv_iconst (v := (1 : Int32)) hx hb d_F_trim_14 (by decide) ?_
      refine lv_goto hx hb d_F_trim_15 (tgt := 19) (by decide) ?_
      exact J19 _ a1 (1 : Int32) hl hF
abbrev rx_F_spoil : Room := { frames := 8, cells := 1, slots := 6, locals := 152 }
set_option maxHeartbeats 4000000 in
set_option maxRecDepth 100000 in
theorem cx_F_spoil (l : Launch) (dC : Nat → ClassId) (dI : Nat → Nat → Nat) (cA : ClassId) (h0 q1 q2 q3 q4 q5 q6 : Nat) (st pl tk wd er : Nat → Int32) (nx md : Int32) (a1 : Int32) (a2 : Int32) (a3 : Int32) (a4 : Int32) (xk : Nat) (hF : x_F_spoil wd a1 a2 a3 a4 = some xk) (hfl : l.flags = pinnedFlags ++ [noTraceFlag]) : MetX l y_F_spoil ws_F_spoil rx_F_spoil (tx_PX [.ref h0, .int a1, .int a2, .int a3, .int a4] (dC, dI) [(cA, .int)] (wF cA h0 q1 q2 q3 q4 q5 q6 st pl tk wd er nx md)) (tx_Q (tx_names.getD xk "")) 1 6 (fun _ => False) := by
  refine MetX.ofW (cc := b_F_spoil) (maxL := 5) (ret := none) (by decide +kernel) rfl ?_
  intro p e s m args below meth c s₁ B hml hv
  obtain ⟨hargs, hP, hK, hE⟩ := hv
  have hx := B.exec
  have hb := B.bytes
  have hr := B.returns
  have hts := atoms_spec (ws := ws_F_spoil) B.pre
  have hown : s.vm.findClass "FlashStore" = some m.cls := findClass_of_methodNamed B.named
  have hlocks := B.notSynchronized
  have hnoh := B.noHandlers (hts _ List.mem_cons_self)
  have w0 := (hts _ (List.mem_cons_of_mem _ bq_1_41))
  have w1 := (hts _ (List.mem_cons_of_mem _ bq_1_144))
  have w2 := (hts _ (List.mem_cons_of_mem _ bq_1_8))
  have hl := lv_entry ([.ref h0, .int a1, .int a2, .int a3, .int a4]) (n := 5) (Nat.le_of_ble_eq_true rfl)
  have hen : entryFrame m args 5 = _ := (congrArg (fun z => entryFrame m z 5) hargs).trans (lg_entry_eq m ([.ref h0, .int a1, .int a2, .int a3, .int a4]) 5)
  refine W.eq hen ?_
  clear hen
  generalize (lg_sl ([.ref h0, .int a1, .int a2, .int a3, .int a4]) ++ List.replicate (5 - (lg_sl ([.ref h0, .int a1, .int a2, .int a3, .int a4])).length) Slot.unset).toArray = ls at hl ⊢
  have hl : lv_has ls 5 [(0, .ref h0), (1, .int a1), (2, .int a2), (3, .int a3), (4, .int a4)] := hl
  have hF : ((x_F_requireWord a1 a2 a3).elim ((f_F_requireWord a1 a2 a3).bind fun _ => if 0 ≤ a4 then ((f_F_placeOf a1 a2).bind fun r27 => none) else (some 0)) some) = some xk := hF
  refine lv_iload_n hx hb d_F_spoil_0 rfl (lv_at hl 1 rfl) ?_
  refine lv_iload_n hx hb d_F_spoil_1 rfl (lv_at hl 2 rfl) ?_
  refine lv_iload_n hx hb d_F_spoil_2 rfl (lv_at hl 3 rfl) ?_
  rcases tx_or hF with hX | hF
  · exact tx_callS (As := [.int a1, .int a2, .int a3]) (rest := []) ⟨hx, hb, hml, hown, hts⟩ (cx_F_requireWord l a1 a2 a3 _ hX hfl) (va_cwS 3 hts (tg_S bq_2_131 bq_2_132 bq_1_1 bq_2_133) rfl rfl rfl (by decide +kernel) ⟨Nat.le_of_ble_eq_true rfl, Nat.le_of_ble_eq_true rfl⟩) ⟨tx_blE, tx_preE hE⟩ rfl hl.1 (lv_room (Nat.le_of_ble_eq_true rfl)) d_F_spoil_3 ⟨Nat.le_of_ble_eq_true rfl, Nat.le_of_ble_eq_true rfl⟩ (tx_noh hnoh _) hlocks rfl
  · obtain ⟨_u, hc3, hF⟩ := tx_b hF
    refine va_csv (W.runS (As := [.int a1, .int a2, .int a3]) (rest := []) ⟨hx, hb, hml, hown, hts⟩ (c_F_requireWord l a1 a2 a3 _u hc3) (va_cwS 3 hts (tg_S bq_2_131 bq_2_132 bq_1_1 bq_2_133) rfl rfl rfl (by decide +kernel) ⟨Nat.le_of_ble_eq_true rfl, Nat.le_of_ble_eq_true rfl⟩) ⟨tx_bl0, tx_pre0⟩ rfl rfl hl.1 rfl (lv_room (Nat.le_of_ble_eq_true rfl)) d_F_spoil_3 ⟨Nat.zero_le _, Nat.zero_le _⟩) (fun _ => ?_)
    refine lv_iload hx hb d_F_spoil_6 (lv_at hl 4 rfl) ?_
    refine lv_if_ge hx hb d_F_spoil_8 (tgt := 21) (by decide) (fun h8 => ?_) (fun h8 => ?_)
    · have hF := tx_t h8 hF
      refine lv_aload_n hx hb d_F_spoil_21 rfl (lv_at hl 0 rfl) ?_
      refine va_get (D := (dC, dI)) (ci := 1) (v := .ref q1) (C := "FlashStore") (T := TF) (N := 6) hx hb hts inTF hown hK hP 0 rfl rfl 0 (by decide) w0 (fun _ h9 => h9) rfl d_F_spoil_22 ?_
      refine lv_iload_n hx hb d_F_spoil_25 rfl (lv_at hl 1 rfl) ?_
      refine lv_iload_n hx hb d_F_spoil_26 rfl (lv_at hl 2 rfl) ?_
      obtain ⟨r27, hc27, hF⟩ := tx_b hF
      refine vp_callSi (W.runS (As := [.int a1, .int a2]) (rest := [.ref q1]) ⟨hx, hb, hml, hown, hts⟩ (c_F_placeOf l a1 a2 r27 hc27) (va_cwS 2 hts (tg_S bq_2_34 bq_2_35 bq_1_1 bq_2_36) rfl rfl rfl (by decide +kernel) ⟨Nat.le_of_ble_eq_true rfl, Nat.le_of_ble_eq_true rfl⟩) ⟨tx_bl0, tx_pre0⟩ rfl rfl hl.1 rfl (lv_room (Nat.le_of_ble_eq_true rfl)) d_F_spoil_27 ⟨Nat.zero_le _, Nat.zero_le _⟩) (fun zz hz => ?_)
      subst hz
      refine lv_iload_n hx hb d_F_spoil_30 rfl (lv_at hl 3 rfl) ?_
      refine lv_iload hx hb d_F_spoil_31 (lv_at hl 4 rfl) ?_
      cases hF
    · have hF := tx_f h8 hF
      cases hF
      obtain ⟨qs, hqs⟩ := hE.1 (53, "a word has 31 bits") (by decide)
      exact tx_throw hx hb hfl hown (by decide) (by decide) w1 w2 hqs (tx_own_0 hts hE) (tx_noh hnoh _) (hl.1.trans hml.symm) hlocks d_F_spoil_11 d_F_spoil_14 d_F_spoil_15 d_F_spoil_17 d_F_spoil_20 (Nat.le_of_ble_eq_true rfl) (Nat.le_of_ble_eq_true rfl) (Nat.le_of_ble_eq_true rfl) (Nat.le_of_ble_eq_true rfl)
abbrev rx_F_flash : Room := { frames := 8, cells := 1, slots := 6, locals := 152 }
set_option maxHeartbeats 4000000 in
set_option maxRecDepth 100000 in
theorem cx_F_flash (l : Launch) (dC : Nat → ClassId) (dI : Nat → Nat → Nat) (cA : ClassId) (h0 q1 q2 q3 q4 q5 q6 : Nat) (st pl tk wd er : Nat → Int32) (nx md : Int32) (a1 : Int32) (a2 : Int32) (a3 : Int32) (xk : Nat) (hF : x_F_flash wd a1 a2 a3 = some xk) (hfl : l.flags = pinnedFlags ++ [noTraceFlag]) : MetX l y_F_flash ws_F_flash rx_F_flash (tx_PX [.ref h0, .int a1, .int a2, .int a3] (dC, dI) [(cA, .int)] (wF cA h0 q1 q2 q3 q4 q5 q6 st pl tk wd er nx md)) (tx_Q (tx_names.getD xk "")) 1 6 (fun _ => False) := by
  refine MetX.ofW (cc := b_F_flash) (maxL := 4) (ret := some .int) (by decide +kernel) rfl ?_
  intro p e s m args below meth c s₁ B hml hv
  obtain ⟨hargs, hP, hK, hE⟩ := hv
  have hx := B.exec
  have hb := B.bytes
  have hr := B.returns
  have hts := atoms_spec (ws := ws_F_flash) B.pre
  have hown : s.vm.findClass "FlashStore" = some m.cls := findClass_of_methodNamed B.named
  have hlocks := B.notSynchronized
  have hnoh := B.noHandlers (hts _ List.mem_cons_self)
  have w0 := (hts _ (List.mem_cons_of_mem _ bq_1_41))
  have hl := lv_entry ([.ref h0, .int a1, .int a2, .int a3]) (n := 4) (Nat.le_of_ble_eq_true rfl)
  have hen : entryFrame m args 4 = _ := (congrArg (fun z => entryFrame m z 4) hargs).trans (lg_entry_eq m ([.ref h0, .int a1, .int a2, .int a3]) 4)
  refine W.eq hen ?_
  clear hen
  generalize (lg_sl ([.ref h0, .int a1, .int a2, .int a3]) ++ List.replicate (4 - (lg_sl ([.ref h0, .int a1, .int a2, .int a3])).length) Slot.unset).toArray = ls at hl ⊢
  have hl : lv_has ls 4 [(0, .ref h0), (1, .int a1), (2, .int a2), (3, .int a3)] := hl
  have hF : ((x_F_requireWord a1 a2 a3).elim ((f_F_requireWord a1 a2 a3).bind fun _ => (f_F_placeOf a1 a2).bind fun r12 => (f_M_wordAt wd r12 a3).bind fun r16 => none) some) = some xk := hF
  refine lv_iload_n hx hb d_F_flash_0 rfl (lv_at hl 1 rfl) ?_
  refine lv_iload_n hx hb d_F_flash_1 rfl (lv_at hl 2 rfl) ?_
  refine lv_iload_n hx hb d_F_flash_2 rfl (lv_at hl 3 rfl) ?_
  rcases tx_or hF with hX | hF
  · exact tx_callS (As := [.int a1, .int a2, .int a3]) (rest := []) ⟨hx, hb, hml, hown, hts⟩ (cx_F_requireWord l a1 a2 a3 _ hX hfl) (va_cwS 3 hts (tg_S bq_2_131 bq_2_132 bq_1_1 bq_2_133) rfl rfl rfl (by decide +kernel) ⟨Nat.le_of_ble_eq_true rfl, Nat.le_of_ble_eq_true rfl⟩) ⟨tx_blE, tx_preE hE⟩ rfl hl.1 (lv_room (Nat.le_of_ble_eq_true rfl)) d_F_flash_3 ⟨Nat.le_of_ble_eq_true rfl, Nat.le_of_ble_eq_true rfl⟩ (tx_noh hnoh _) hlocks rfl
  · obtain ⟨_u, hc3, hF⟩ := tx_b hF
    refine va_csv (W.runS (As := [.int a1, .int a2, .int a3]) (rest := []) ⟨hx, hb, hml, hown, hts⟩ (c_F_requireWord l a1 a2 a3 _u hc3) (va_cwS 3 hts (tg_S bq_2_131 bq_2_132 bq_1_1 bq_2_133) rfl rfl rfl (by decide +kernel) ⟨Nat.le_of_ble_eq_true rfl, Nat.le_of_ble_eq_true rfl⟩) ⟨tx_bl0, tx_pre0⟩ rfl rfl hl.1 rfl (lv_room (Nat.le_of_ble_eq_true rfl)) d_F_flash_3 ⟨Nat.zero_le _, Nat.zero_le _⟩) (fun _ => ?_)
    refine lv_aload_n hx hb d_F_flash_6 rfl (lv_at hl 0 rfl) ?_
    refine va_get (D := (dC, dI)) (ci := 1) (v := .ref q1) (C := "FlashStore") (T := TF) (N := 6) hx hb hts inTF hown hK hP 0 rfl rfl 0 (by decide) w0 (fun _ h9 => h9) rfl d_F_flash_7 ?_
    refine lv_iload_n hx hb d_F_flash_10 rfl (lv_at hl 1 rfl) ?_
    refine lv_iload_n hx hb d_F_flash_11 rfl (lv_at hl 2 rfl) ?_
    obtain ⟨r12, hc12, hF⟩ := tx_b hF
    refine vp_callSi (W.runS (As := [.int a1, .int a2]) (rest := [.ref q1]) ⟨hx, hb, hml, hown, hts⟩ (c_F_placeOf l a1 a2 r12 hc12) (va_cwS 2 hts (tg_S bq_2_34 bq_2_35 bq_1_1 bq_2_36) rfl rfl rfl (by decide +kernel) ⟨Nat.le_of_ble_eq_true rfl, Nat.le_of_ble_eq_true rfl⟩) ⟨tx_bl0, tx_pre0⟩ rfl rfl hl.1 rfl (lv_room (Nat.le_of_ble_eq_true rfl)) d_F_flash_12 ⟨Nat.zero_le _, Nat.zero_le _⟩) (fun zz hz => ?_)
    subst hz
    refine lv_iload_n hx hb d_F_flash_15 rfl (lv_at hl 3 rfl) ?_
    obtain ⟨r16, hc16, hF⟩ := tx_b hF
    refine vp_callSi (W.runV (As := [.int r12, .int a3]) (rest := []) ⟨hx, hb, hml, hown, hts⟩ (c_M_wordAt l dC dI cA q1 q5 q6 wd er r12 a3 r16 hc16) (cwV 2 hts (tg_V bq_2_154 bq_1_73 bq_1_74 bq_1_2 bq_1_75) rfl rfl rfl (by decide +kernel) ⟨Nat.le_of_ble_eq_true rfl, Nat.le_of_ble_eq_true rfl⟩) ⟨tx_blR, (va_recv (ci := 0) (q0 := 1) hK hP rfl rfl), tx_preR (hP.sub (ws' := (wM cA q1 q5 q6 wd er)) [1, 5, 6] rfl) hK⟩ rfl rfl hl.1 rfl (lv_room (Nat.le_of_ble_eq_true rfl)) d_F_flash_16 ⟨Nat.zero_le _, Nat.zero_le _⟩) (fun zz hz => ?_)
    subst hz
    cases hF
abbrev rx_F_clean : Room := { frames := 7, cells := 1, slots := 6, locals := 159 }
set_option maxHeartbeats 4000000 in
set_option maxRecDepth 100000 in
theorem cx_F_clean (l : Launch) (dC : Nat → ClassId) (dI : Nat → Nat → Nat) (cA : ClassId) (h0 q1 q2 q3 q4 q5 q6 : Nat) (st pl tk wd er : Nat → Int32) (nx md : Int32)  (xk : Nat) (hF : x_F_clean st pl wd er nx = some xk) (hfl : l.flags = pinnedFlags ++ [noTraceFlag]) : MetX l y_F_clean ws_F_clean rx_F_clean (tx_PX [.ref h0] (dC, dI) [(cA, .int)] (wF cA h0 q1 q2 q3 q4 q5 q6 st pl tk wd er nx md)) (tx_Q (tx_names.getD xk "")) 1 6 (fun _ => False) := by
  refine MetX.ofW (cc := b_F_clean) (maxL := 2) (ret := some .int) (by decide +kernel) rfl ?_
  intro p e s m args below meth c s₁ B hml hv
  obtain ⟨hargs, hP, hK, hE⟩ := hv
  have hx := B.exec
  have hb := B.bytes
  have hr := B.returns
  have hts := atoms_spec (ws := ws_F_clean) B.pre
  have hown : s.vm.findClass "FlashStore" = some m.cls := findClass_of_methodNamed B.named
  have hlocks := B.notSynchronized
  have hnoh := B.noHandlers (hts _ List.mem_cons_self)
  have w0 := (hts _ (List.mem_cons_of_mem _ bq_2_57))
  have w1 := (hts _ (List.mem_cons_of_mem _ bq_1_12))
  have hl := lv_entry ([.ref h0]) (n := 2) (Nat.le_of_ble_eq_true rfl)
  have hen : entryFrame m args 2 = _ := (congrArg (fun z => entryFrame m z 2) hargs).trans (lg_entry_eq m ([.ref h0]) 2)
  refine W.eq hen ?_
  clear hen
  generalize (lg_sl ([.ref h0]) ++ List.replicate (2 - (lg_sl ([.ref h0])).length) Slot.unset).toArray = ls at hl ⊢
  have hl : lv_has ls 2 [(0, .ref h0)] := hl
  have hF : ((f_F_blockToClean st er).bind fun r1 => if r1 = (-1 : Int32) then (some 1) else (none)) = some xk := hF
  refine lv_aload_n hx hb d_F_clean_0 rfl (lv_at hl 0 rfl) ?_
  obtain ⟨r1, hc1, hF⟩ := tx_b hF
  refine vp_callSi (W.runV (As := []) (rest := []) ⟨hx, hb, hml, hown, hts⟩ (c_F_blockToClean l dC dI cA h0 q1 q2 q3 q4 q5 q6 st pl tk wd er nx md r1 hc1) (cwV 0 hts (tg_V bq_2_37 bq_2_39 bq_s_9 bq_1_1 bq_2_40) rfl rfl rfl (by decide +kernel) ⟨Nat.le_of_ble_eq_true rfl, Nat.le_of_ble_eq_true rfl⟩) ⟨tx_blR, (va_recv (ci := 1) (q0 := 0) hK hP rfl rfl), tx_preR (hP) hK⟩ rfl rfl hl.1 rfl (lv_room (Nat.le_of_ble_eq_true rfl)) d_F_clean_1 ⟨Nat.zero_le _, Nat.zero_le _⟩) (fun zz hz => ?_)
  subst hz
  refine lv_istore_n hx hb d_F_clean_4 rfl hl (by decide) rfl (fun ls hl => ?_)
  have hl : lv_has ls 2 [(1, .int r1), (0, .ref h0)] := hl
  refine lv_iload_n hx hb d_F_clean_5 rfl (lv_at hl 0 rfl) ?_
  refine lv_iconst (v := (-1 : Int32)) hx hb d_F_clean_6 (by decide) ?_
  refine lv_icmp_ne hx hb d_F_clean_7 (tgt := 20) (by decide) (fun h7 => ?_) (fun h7 => ?_)
  · have hF := tx_f h7 hF
    refine lv_aload_n hx hb d_F_clean_20 rfl (lv_at hl 1 rfl) ?_
    refine lv_iload_n hx hb d_F_clean_21 rfl (lv_at hl 0 rfl) ?_
    cases hF
  · have hF := tx_t h7 hF
    cases hF
    obtain ⟨qs, hqs⟩ := hE.1 (143, "no block can be cleaned") (by decide)
    exact tx_throw hx hb hfl hown (by decide) (by decide) w0 w1 hqs (tx_own_1 hts hE) (tx_noh hnoh _) (hl.1.trans hml.symm) hlocks d_F_clean_10 d_F_clean_13 d_F_clean_14 d_F_clean_16 d_F_clean_19 (Nat.le_of_ble_eq_true rfl) (Nat.le_of_ble_eq_true rfl) (Nat.le_of_ble_eq_true rfl) (Nat.le_of_ble_eq_true rfl)
abbrev rx_F_place : Room := { frames := 7, cells := 1, slots := 6, locals := 130 }
set_option maxHeartbeats 4000000 in
set_option maxRecDepth 100000 in
theorem cx_F_place (l : Launch) (dC : Nat → ClassId) (dI : Nat → Nat → Nat) (cA : ClassId) (h0 q1 q2 q3 q4 q5 q6 : Nat) (st pl tk wd er : Nat → Int32) (nx md : Int32) (a1 : Int32) (xk : Nat) (hF : x_F_place pl a1 = some xk) (hfl : l.flags = pinnedFlags ++ [noTraceFlag]) : MetX l y_F_place ws_F_place rx_F_place (tx_PX [.ref h0, .int a1] (dC, dI) [(cA, .int)] (wF cA h0 q1 q2 q3 q4 q5 q6 st pl tk wd er nx md)) (tx_Q (tx_names.getD xk "")) 1 6 (fun _ => False) := by
  refine MetX.ofW (cc := b_F_place) (maxL := 2) (ret := some .int) (by decide +kernel) rfl ?_
  intro p e s m args below meth c s₁ B hml hv
  obtain ⟨hargs, hP, hK, hE⟩ := hv
  have hx := B.exec
  have hb := B.bytes
  have hr := B.returns
  have hts := atoms_spec (ws := ws_F_place) B.pre
  have hown : s.vm.findClass "FlashStore" = some m.cls := findClass_of_methodNamed B.named
  have hlocks := B.notSynchronized
  have hnoh := B.noHandlers (hts _ List.mem_cons_self)
  have w0 := (hts _ (List.mem_cons_of_mem _ bq_1_43))
  have hl := lv_entry ([.ref h0, .int a1]) (n := 2) (Nat.le_of_ble_eq_true rfl)
  have hen : entryFrame m args 2 = _ := (congrArg (fun z => entryFrame m z 2) hargs).trans (lg_entry_eq m ([.ref h0, .int a1]) 2)
  refine W.eq hen ?_
  clear hen
  generalize (lg_sl ([.ref h0, .int a1]) ++ List.replicate (2 - (lg_sl ([.ref h0, .int a1])).length) Slot.unset).toArray = ls at hl ⊢
  have hl : lv_has ls 2 [(0, .ref h0), (1, .int a1)] := hl
  have hF : ((x_F_requireLogicalPage a1).elim ((f_F_requireLogicalPage a1).bind fun _ => if a1 < 0 ∨ 8 ≤ a1.toNatClampNeg then none else none) some) = some xk := hF
  refine lv_iload_n hx hb d_F_place_0 rfl (lv_at hl 1 rfl) ?_
  rcases tx_or hF with hX | hF
  · exact tx_callS (As := [.int a1]) (rest := []) ⟨hx, hb, hml, hown, hts⟩ (cx_F_requireLogicalPage l a1 _ hX hfl) (va_cwS 1 hts (tg_S bq_2_11 bq_2_12 bq_1_1 bq_2_13) rfl rfl rfl (by decide +kernel) ⟨Nat.le_of_ble_eq_true rfl, Nat.le_of_ble_eq_true rfl⟩) ⟨tx_blE, tx_preE hE⟩ rfl hl.1 (lv_room (Nat.le_of_ble_eq_true rfl)) d_F_place_1 ⟨Nat.le_of_ble_eq_true rfl, Nat.le_of_ble_eq_true rfl⟩ (tx_noh hnoh _) hlocks rfl
  · obtain ⟨_u, hc1, hF⟩ := tx_b hF
    refine va_csv (W.runS (As := [.int a1]) (rest := []) ⟨hx, hb, hml, hown, hts⟩ (c_F_requireLogicalPage l a1 _u hc1) (va_cwS 1 hts (tg_S bq_2_11 bq_2_12 bq_1_1 bq_2_13) rfl rfl rfl (by decide +kernel) ⟨Nat.le_of_ble_eq_true rfl, Nat.le_of_ble_eq_true rfl⟩) ⟨tx_bl0, tx_pre0⟩ rfl rfl hl.1 rfl (lv_room (Nat.le_of_ble_eq_true rfl)) d_F_place_1 ⟨Nat.zero_le _, Nat.zero_le _⟩) (fun _ => ?_)
    refine lv_aload_n hx hb d_F_place_4 rfl (lv_at hl 0 rfl) ?_
    refine va_get (D := (dC, dI)) (ci := 1) (v := .ref q3) (C := "FlashStore") (T := TF) (N := 6) hx hb hts inTF hown hK hP 0 rfl rfl 2 (by decide) w0 (fun _ h9 => h9) rfl d_F_place_5 ?_
    refine lv_iload_n hx hb d_F_place_8 rfl (lv_at hl 1 rfl) ?_
    obtain ⟨hi9, hF⟩ := tx_g hF
    refine va_iald hx hb hK hP 3 0 rfl rfl hi9 d_F_place_9 ?_
    cases hF
abbrev rx_F_state : Room := { frames := 7, cells := 1, slots := 6, locals := 130 }
set_option maxHeartbeats 4000000 in
set_option maxRecDepth 100000 in
theorem cx_F_state (l : Launch) (dC : Nat → ClassId) (dI : Nat → Nat → Nat) (cA : ClassId) (h0 q1 q2 q3 q4 q5 q6 : Nat) (st pl tk wd er : Nat → Int32) (nx md : Int32) (a1 : Int32) (a2 : Int32) (xk : Nat) (hF : x_F_state st a1 a2 = some xk) (hfl : l.flags = pinnedFlags ++ [noTraceFlag]) : MetX l y_F_state ws_F_state rx_F_state (tx_PX [.ref h0, .int a1, .int a2] (dC, dI) [(cA, .int)] (wF cA h0 q1 q2 q3 q4 q5 q6 st pl tk wd er nx md)) (tx_Q (tx_names.getD xk "")) 1 6 (fun _ => False) := by
  refine MetX.ofW (cc := b_F_state) (maxL := 3) (ret := some .int) (by decide +kernel) rfl ?_
  intro p e s m args below meth c s₁ B hml hv
  obtain ⟨hargs, hP, hK, hE⟩ := hv
  have hx := B.exec
  have hb := B.bytes
  have hr := B.returns
  have hts := atoms_spec (ws := ws_F_state) B.pre
  have hown : s.vm.findClass "FlashStore" = some m.cls := findClass_of_methodNamed B.named
  have hlocks := B.notSynchronized
  have hnoh := B.noHandlers (hts _ List.mem_cons_self)
  have w0 := (hts _ (List.mem_cons_of_mem _ bq_1_42))
  have hl := lv_entry ([.ref h0, .int a1, .int a2]) (n := 3) (Nat.le_of_ble_eq_true rfl)
  have hen : entryFrame m args 3 = _ := (congrArg (fun z => entryFrame m z 3) hargs).trans (lg_entry_eq m ([.ref h0, .int a1, .int a2]) 3)
  refine W.eq hen ?_
  clear hen
  generalize (lg_sl ([.ref h0, .int a1, .int a2]) ++ List.replicate (3 - (lg_sl ([.ref h0, .int a1, .int a2])).length) Slot.unset).toArray = ls at hl ⊢
  have hl : lv_has ls 3 [(0, .ref h0), (1, .int a1), (2, .int a2)] := hl
  have hF : ((x_F_requireBlock a1).elim ((f_F_requireBlock a1).bind fun _ => (x_F_requirePageOfBlock a2).elim ((f_F_requirePageOfBlock a2).bind fun _ => (f_F_placeOf a1 a2).bind fun r14 => if r14 < 0 ∨ 16 ≤ r14.toNatClampNeg then none else none) some) some) = some xk := hF
  refine lv_iload_n hx hb d_F_state_0 rfl (lv_at hl 1 rfl) ?_
  rcases tx_or hF with hX | hF
  · exact tx_callS (As := [.int a1]) (rest := []) ⟨hx, hb, hml, hown, hts⟩ (cx_F_requireBlock l a1 _ hX hfl) (va_cwS 1 hts (tg_S bq_2_134 bq_2_135 bq_1_1 bq_2_136) rfl rfl rfl (by decide +kernel) ⟨Nat.le_of_ble_eq_true rfl, Nat.le_of_ble_eq_true rfl⟩) ⟨tx_blE, tx_preE hE⟩ rfl hl.1 (lv_room (Nat.le_of_ble_eq_true rfl)) d_F_state_1 ⟨Nat.le_of_ble_eq_true rfl, Nat.le_of_ble_eq_true rfl⟩ (tx_noh hnoh _) hlocks rfl
  · obtain ⟨_u, hc1, hF⟩ := tx_b hF
    refine va_csv (W.runS (As := [.int a1]) (rest := []) ⟨hx, hb, hml, hown, hts⟩ (c_F_requireBlock l a1 _u hc1) (va_cwS 1 hts (tg_S bq_2_134 bq_2_135 bq_1_1 bq_2_136) rfl rfl rfl (by decide +kernel) ⟨Nat.le_of_ble_eq_true rfl, Nat.le_of_ble_eq_true rfl⟩) ⟨tx_bl0, tx_pre0⟩ rfl rfl hl.1 rfl (lv_room (Nat.le_of_ble_eq_true rfl)) d_F_state_1 ⟨Nat.zero_le _, Nat.zero_le _⟩) (fun _ => ?_)
    refine lv_iload_n hx hb d_F_state_4 rfl (lv_at hl 2 rfl) ?_
    rcases tx_or hF with hX | hF
    · exact tx_callS (As := [.int a2]) (rest := []) ⟨hx, hb, hml, hown, hts⟩ (cx_F_requirePageOfBlock l a2 _ hX hfl) (va_cwS 1 hts (tg_S bq_2_138 bq_2_139 bq_1_1 bq_2_140) rfl rfl rfl (by decide +kernel) ⟨Nat.le_of_ble_eq_true rfl, Nat.le_of_ble_eq_true rfl⟩) ⟨tx_blE, tx_preE hE⟩ rfl hl.1 (lv_room (Nat.le_of_ble_eq_true rfl)) d_F_state_5 ⟨Nat.le_of_ble_eq_true rfl, Nat.le_of_ble_eq_true rfl⟩ (tx_noh hnoh _) hlocks rfl
    · obtain ⟨_u, hc5, hF⟩ := tx_b hF
      refine va_csv (W.runS (As := [.int a2]) (rest := []) ⟨hx, hb, hml, hown, hts⟩ (c_F_requirePageOfBlock l a2 _u hc5) (va_cwS 1 hts (tg_S bq_2_138 bq_2_139 bq_1_1 bq_2_140) rfl rfl rfl (by decide +kernel) ⟨Nat.le_of_ble_eq_true rfl, Nat.le_of_ble_eq_true rfl⟩) ⟨tx_bl0, tx_pre0⟩ rfl rfl hl.1 rfl (lv_room (Nat.le_of_ble_eq_true rfl)) d_F_state_5 ⟨Nat.zero_le _, Nat.zero_le _⟩) (fun _ => ?_)
      refine lv_aload_n hx hb d_F_state_8 rfl (lv_at hl 0 rfl) ?_
      refine va_get (D := (dC, dI)) (ci := 1) (v := .ref q2) (C := "FlashStore") (T := TF) (N := 6) hx hb hts inTF hown hK hP 0 rfl rfl 1 (by decide) w0 (fun _ h9 => h9) rfl d_F_state_9 ?_
      refine lv_iload_n hx hb d_F_state_12 rfl (lv_at hl 1 rfl) ?_
      refine lv_iload_n hx hb d_F_state_13 rfl (lv_at hl 2 rfl) ?_
      obtain ⟨r14, hc14, hF⟩ := tx_b hF
      refine vp_callSi (W.runS (As := [.int a1, .int a2]) (rest := [.ref q2]) ⟨hx, hb, hml, hown, hts⟩ (c_F_placeOf l a1 a2 r14 hc14) (va_cwS 2 hts (tg_S bq_2_34 bq_2_35 bq_1_1 bq_2_36) rfl rfl rfl (by decide +kernel) ⟨Nat.le_of_ble_eq_true rfl, Nat.le_of_ble_eq_true rfl⟩) ⟨tx_bl0, tx_pre0⟩ rfl rfl hl.1 rfl (lv_room (Nat.le_of_ble_eq_true rfl)) d_F_state_14 ⟨Nat.zero_le _, Nat.zero_le _⟩) (fun zz hz => ?_)
      subst hz
      obtain ⟨hi17, hF⟩ := tx_g hF
      refine va_iald hx hb hK hP 2 0 rfl rfl hi17 d_F_state_17 ?_
      cases hF
abbrev rx_F_wear : Room := { frames := 7, cells := 1, slots := 6, locals := 130 }
set_option maxHeartbeats 4000000 in
set_option maxRecDepth 100000 in
theorem cx_F_wear (l : Launch) (dC : Nat → ClassId) (dI : Nat → Nat → Nat) (cA : ClassId) (h0 q1 q2 q3 q4 q5 q6 : Nat) (st pl tk wd er : Nat → Int32) (nx md : Int32) (a1 : Int32) (xk : Nat) (hF : x_F_wear er a1 = some xk) (hfl : l.flags = pinnedFlags ++ [noTraceFlag]) : MetX l y_F_wear ws_F_wear rx_F_wear (tx_PX [.ref h0, .int a1] (dC, dI) [(cA, .int)] (wF cA h0 q1 q2 q3 q4 q5 q6 st pl tk wd er nx md)) (tx_Q (tx_names.getD xk "")) 1 6 (fun _ => False) := by
  refine MetX.ofW (cc := b_F_wear) (maxL := 2) (ret := some .int) (by decide +kernel) rfl ?_
  intro p e s m args below meth c s₁ B hml hv
  obtain ⟨hargs, hP, hK, hE⟩ := hv
  have hx := B.exec
  have hb := B.bytes
  have hr := B.returns
  have hts := atoms_spec (ws := ws_F_wear) B.pre
  have hown : s.vm.findClass "FlashStore" = some m.cls := findClass_of_methodNamed B.named
  have hlocks := B.notSynchronized
  have hnoh := B.noHandlers (hts _ List.mem_cons_self)
  have w0 := (hts _ (List.mem_cons_of_mem _ bq_1_41))
  have hl := lv_entry ([.ref h0, .int a1]) (n := 2) (Nat.le_of_ble_eq_true rfl)
  have hen : entryFrame m args 2 = _ := (congrArg (fun z => entryFrame m z 2) hargs).trans (lg_entry_eq m ([.ref h0, .int a1]) 2)
  refine W.eq hen ?_
  clear hen
  generalize (lg_sl ([.ref h0, .int a1]) ++ List.replicate (2 - (lg_sl ([.ref h0, .int a1])).length) Slot.unset).toArray = ls at hl ⊢
  have hl : lv_has ls 2 [(0, .ref h0), (1, .int a1)] := hl
  have hF : ((x_F_requireBlock a1).elim ((f_F_requireBlock a1).bind fun _ => (f_M_erasuresOf er a1).bind fun r9 => none) some) = some xk := hF
  refine lv_iload_n hx hb d_F_wear_0 rfl (lv_at hl 1 rfl) ?_
  rcases tx_or hF with hX | hF
  · exact tx_callS (As := [.int a1]) (rest := []) ⟨hx, hb, hml, hown, hts⟩ (cx_F_requireBlock l a1 _ hX hfl) (va_cwS 1 hts (tg_S bq_2_134 bq_2_135 bq_1_1 bq_2_136) rfl rfl rfl (by decide +kernel) ⟨Nat.le_of_ble_eq_true rfl, Nat.le_of_ble_eq_true rfl⟩) ⟨tx_blE, tx_preE hE⟩ rfl hl.1 (lv_room (Nat.le_of_ble_eq_true rfl)) d_F_wear_1 ⟨Nat.le_of_ble_eq_true rfl, Nat.le_of_ble_eq_true rfl⟩ (tx_noh hnoh _) hlocks rfl
  · obtain ⟨_u, hc1, hF⟩ := tx_b hF
    refine va_csv (W.runS (As := [.int a1]) (rest := []) ⟨hx, hb, hml, hown, hts⟩ (c_F_requireBlock l a1 _u hc1) (va_cwS 1 hts (tg_S bq_2_134 bq_2_135 bq_1_1 bq_2_136) rfl rfl rfl (by decide +kernel) ⟨Nat.le_of_ble_eq_true rfl, Nat.le_of_ble_eq_true rfl⟩) ⟨tx_bl0, tx_pre0⟩ rfl rfl hl.1 rfl (lv_room (Nat.le_of_ble_eq_true rfl)) d_F_wear_1 ⟨Nat.zero_le _, Nat.zero_le _⟩) (fun _ => ?_)
    refine lv_aload_n hx hb d_F_wear_4 rfl (lv_at hl 0 rfl) ?_
    refine va_get (D := (dC, dI)) (ci := 1) (v := .ref q1) (C := "FlashStore") (T := TF) (N := 6) hx hb hts inTF hown hK hP 0 rfl rfl 0 (by decide) w0 (fun _ h9 => h9) rfl d_F_wear_5 ?_
    refine lv_iload_n hx hb d_F_wear_8 rfl (lv_at hl 1 rfl) ?_
    obtain ⟨r9, hc9, hF⟩ := tx_b hF
    refine vp_callSi (W.runV (As := [.int a1]) (rest := []) ⟨hx, hb, hml, hown, hts⟩ (c_M_erasuresOf l dC dI cA q1 q5 q6 wd er a1 r9 hc9) (cwV 1 hts (tg_V bq_2_53 bq_2_54 bq_2_55 bq_1_2 bq_2_56) rfl rfl rfl (by decide +kernel) ⟨Nat.le_of_ble_eq_true rfl, Nat.le_of_ble_eq_true rfl⟩) ⟨tx_blR, (va_recv (ci := 0) (q0 := 1) hK hP rfl rfl), tx_preR (hP.sub (ws' := (wM cA q1 q5 q6 wd er)) [1, 5, 6] rfl) hK⟩ rfl rfl hl.1 rfl (lv_room (Nat.le_of_ble_eq_true rfl)) d_F_wear_9 ⟨Nat.zero_le _, Nat.zero_le _⟩) (fun zz hz => ?_)
    subst hz
    cases hF
