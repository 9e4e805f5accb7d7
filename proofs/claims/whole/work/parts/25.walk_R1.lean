abbrev rm_R_out : Room := { frames := 0, cells := 0, slots := 0, locals := 0 }
set_option maxHeartbeats 4000000 in
set_option maxRecDepth 100000 in
theorem c_R_out (l : Launch) (a1 : Int32) (a2 : Int32) (r : Int32)  (hF : f_R_out a1 a2 = some r) : Met l y_R_out ws_R_out rm_R_out (va_Pc [.int a1, .int a2] (fun _ => True)) (vp_Si (fun z => r = z)) 0 0 (fun _ => False) := by
  refine Met.ofW (cc := b_R_out) (maxL := 2) (ret := some .boolean) (by decide +kernel) rfl ?_
  intro p e s m args below meth c s₁ B hml hv
  obtain ⟨hargs, -⟩ := hv
  have hx := B.exec
  have hb := B.bytes
  have hr := B.returns
  have hts := atoms_spec (ws := ws_R_out) B.pre
  have hown : s.vm.findClass "FlashStoreModel" = some m.cls := findClass_of_methodNamed B.named
  have hlocks := B.notSynchronized
  have hl := lv_entry ([.int a1, .int a2]) (n := 2) (Nat.le_of_ble_eq_true rfl)
  have hen : entryFrame m args 2 = _ := (congrArg (fun z => entryFrame m z 2) hargs).trans (lg_entry_eq m ([.int a1, .int a2]) 2)
  refine W.eq hen ?_
  clear hen
  generalize (lg_sl ([.int a1, .int a2]) ++ List.replicate (2 - (lg_sl ([.int a1, .int a2])).length) Slot.unset).toArray = ls at hl ⊢
  have hl : lv_has ls 2 [(0, .int a1), (1, .int a2)] := hl
  have J14 : ∀ (ls : Array Slot) (z0 : Int32), lv_has ls 2 [] → f_R_out_J14 z0 = some r → W p l e (headSpec ws_R_out rm_R_out).room s m args below meth c s.heap [] 0 0 (MQ below (vp_Si (fun z => r = z)) args s 0 0 (fun _ => False)) (F0 m 14 ls [.int z0]) := by
    intro ls z0 hl hF
    have hF : (if ¬ (z0 = 0 ∨ z0 = 1) then none else some z0) = some r := hF
    obtain ⟨hz, hF⟩ := tx_g hF
    have hz := Classical.not_not.mp hz
    exact W.zret hx hb hr (tx_z hz) (fun t ht hW => ⟨_, rfl, (Option.some.inj hF).symm, ht⟩) (fun q h => by cases h) d_R_out_14
  have J9 : ∀ (ls : Array Slot), lv_has ls 2 [] → f_R_out_J9  = some r → W p l e (headSpec ws_R_out rm_R_out).room s m args below meth c s.heap [] 0 0 (MQ below (vp_Si (fun z => r = z)) args s 0 0 (fun _ => False)) (F0 m 9 ls []) := by
    intro ls hl hF
    have hF : (f_R_out_J14 (1 : Int32)) = some r := hF
    refine lv_iconst (v := (1 : Int32)) hx hb d_R_out_9 (by decide) ?_
    refine lv_goto hx hb d_R_out_10 (tgt := 14) (by decide) ?_
    exact J14 _ (1 : Int32) hl hF
  have hF : (if a1 < 0 then (f_R_out_J9 ) else (if a1 < a2 then (f_R_out_J14 (0 : Int32)) else (f_R_out_J9 ))) = some r := hF
  refine lv_iload_n hx hb d_R_out_0 rfl (lv_at hl 0 rfl) ?_
  refine lv_if_lt hx hb d_R_out_1 (tgt := 9) (by decide) (fun h1 => ?_) (fun h1 => ?_)
  · have hF := tx_t h1 hF
    exact J9 _ (lv_sub hl [] rfl) hF
  · have hF := tx_f h1 hF
    refine lv_iload_n hx hb d_R_out_4 rfl (lv_at hl 0 rfl) ?_
    refine lv_iload_n hx hb d_R_out_5 rfl (lv_at hl 1 rfl) ?_
    refine lv_icmp_lt hx hb d_R_out_6 (tgt := 13) (by decide) (fun h6 => ?_) (fun h6 => ?_)
    · have hF := tx_t h6 hF
      refine lv_iconst (v := (0 : Int32)) hx hb d_R_out_13 (by decide) ?_
      exact J14 _ (0 : Int32) (lv_sub hl [] rfl) hF
    · have hF := tx_f h6 hF
      exact J9 _ (lv_sub hl [] rfl) hF
abbrev rm_R_newer : Room := { frames := 0, cells := 0, slots := 0, locals := 0 }
set_option maxHeartbeats 4000000 in
set_option maxRecDepth 100000 in
theorem c_R_newer (l : Launch) (a1 : Int32) (a2 : Int32) (r : Int32)  (hF : f_R_newer a1 a2 = some r) : Met l y_R_newer ws_R_newer rm_R_newer (va_Pc [.int a1, .int a2] (fun _ => True)) (vp_Si (fun z => r = z)) 0 0 (fun _ => False) := by
  refine Met.ofW (cc := b_R_newer) (maxL := 3) (ret := some .boolean) (by decide +kernel) rfl ?_
  intro p e s m args below meth c s₁ B hml hv
  obtain ⟨hargs, -⟩ := hv
  have hx := B.exec
  have hb := B.bytes
  have hr := B.returns
  have hts := atoms_spec (ws := ws_R_newer) B.pre
  have hown : s.vm.findClass "FlashStoreModel" = some m.cls := findClass_of_methodNamed B.named
  have hlocks := B.notSynchronized
  have hl := lv_entry ([.int a1, .int a2]) (n := 3) (Nat.le_of_ble_eq_true rfl)
  have hen : entryFrame m args 3 = _ := (congrArg (fun z => entryFrame m z 3) hargs).trans (lg_entry_eq m ([.int a1, .int a2]) 3)
  refine W.eq hen ?_
  clear hen
  generalize (lg_sl ([.int a1, .int a2]) ++ List.replicate (3 - (lg_sl ([.int a1, .int a2])).length) Slot.unset).toArray = ls at hl ⊢
  have hl : lv_has ls 3 [(0, .int a1), (1, .int a2)] := hl
  have J48 : ∀ (ls : Array Slot) (z0 : Int32), lv_has ls 3 [] → f_R_newer_J48 z0 = some r → W p l e (headSpec ws_R_newer rm_R_newer).room s m args below meth c s.heap [] 0 0 (MQ below (vp_Si (fun z => r = z)) args s 0 0 (fun _ => False)) (F0 m 48 ls [.int z0]) := by
    intro ls z0 hl hF
    have hF : (if ¬ (z0 = 0 ∨ z0 = 1) then none else some z0) = some r := hF
    obtain ⟨hz, hF⟩ := tx_g hF
    have hz := Classical.not_not.mp hz
    exact W.zret hx hb hr (tx_z hz) (fun t ht hW => ⟨_, rfl, (Option.some.inj hF).symm, ht⟩) (fun q h => by cases h) d_R_newer_48
  have J47 : ∀ (ls : Array Slot), lv_has ls 3 [] → f_R_newer_J47  = some r → W p l e (headSpec ws_R_newer rm_R_newer).room s m args below meth c s.heap [] 0 0 (MQ below (vp_Si (fun z => r = z)) args s 0 0 (fun _ => False)) (F0 m 47 ls []) := by
    intro ls hl hF
    have hF : (f_R_newer_J48 (0 : Int32)) = some r := hF
    refine lv_iconst (v := (0 : Int32)) hx hb d_R_newer_47 (by decide) ?_
    exact J48 _ (0 : Int32) hl hF
  have J31 : ∀ (ls : Array Slot) (z0 : Int32), lv_has ls 3 [] → f_R_newer_J31 z0 = some r → W p l e (headSpec ws_R_newer rm_R_newer).room s m args below meth c s.heap [] 0 0 (MQ below (vp_Si (fun z => r = z)) args s 0 0 (fun _ => False)) (F0 m 31 ls [.int z0]) := by
    intro ls z0 hl hF
    have hF : (if z0 ≤ 0 then (f_R_newer_J47 ) else (if (2000 : Int32) < z0 then (f_R_newer_J47 ) else (f_R_newer_J48 (1 : Int32)))) = some r := hF
    refine lv_istore_n hx hb d_R_newer_31 rfl hl (by decide) rfl (fun ls hl => ?_)
    have hl : lv_has ls 3 [(2, .int z0)] := hl
    refine lv_iload_n hx hb d_R_newer_32 rfl (lv_at hl 0 rfl) ?_
    refine lv_if_le hx hb d_R_newer_33 (tgt := 47) (by decide) (fun h33 => ?_) (fun h33 => ?_)
    · have hF := tx_t h33 hF
      exact J47 _ (lv_sub hl [] rfl) hF
    · have hF := tx_f h33 hF
      refine lv_iload_n hx hb d_R_newer_36 rfl (lv_at hl 0 rfl) ?_
      refine lv_sipush (v := (2000 : Int32)) hx hb d_R_newer_37 (by decide) ?_
      refine lv_icmp_gt hx hb d_R_newer_40 (tgt := 47) (by decide) (fun h40 => ?_) (fun h40 => ?_)
      · have hF := tx_t h40 hF
        exact J47 _ (lv_sub hl [] rfl) hF
      · have hF := tx_f h40 hF
        refine lv_iconst (v := (1 : Int32)) hx hb d_R_newer_43 (by decide) ?_
        refine lv_goto hx hb d_R_newer_44 (tgt := 48) (by decide) ?_
        exact J48 _ (1 : Int32) (lv_sub hl [] rfl) hF
  have J18 : ∀ (ls : Array Slot) (z0 : Int32), lv_has ls 3 [] → f_R_newer_J18 z0 = some r → W p l e (headSpec ws_R_newer rm_R_newer).room s m args below meth c s.heap [] 0 0 (MQ below (vp_Si (fun z => r = z)) args s 0 0 (fun _ => False)) (F0 m 18 ls [.int z0]) := by
    intro ls z0 hl hF
    have hF : (if z0 = (4095 : Int32) then (f_R_newer_J31 (0 : Int32)) else (f_R_newer_J31 z0)) = some r := hF
    refine lv_istore_n hx hb d_R_newer_18 rfl hl (by decide) rfl (fun ls hl => ?_)
    have hl : lv_has ls 3 [(2, .int z0)] := hl
    refine lv_iload_n hx hb d_R_newer_19 rfl (lv_at hl 0 rfl) ?_
    refine lv_sipush (v := (4095 : Int32)) hx hb d_R_newer_20 (by decide) ?_
    refine lv_icmp_ne hx hb d_R_newer_23 (tgt := 30) (by decide) (fun h23 => ?_) (fun h23 => ?_)
    · have hF := tx_f h23 hF
      refine lv_iload_n hx hb d_R_newer_30 rfl (lv_at hl 0 rfl) ?_
      exact J31 _ z0 (lv_sub hl [] rfl) hF
    · have hF := tx_t h23 hF
      refine lv_iconst (v := (0 : Int32)) hx hb d_R_newer_26 (by decide) ?_
      refine lv_goto hx hb d_R_newer_27 (tgt := 31) (by decide) ?_
      exact J31 _ (0 : Int32) (lv_sub hl [] rfl) hF
  have hF : (if a1 < a2 then (f_R_newer_J18 ((a1 - a2) + (4095 : Int32))) else (f_R_newer_J18 (a1 - a2))) = some r := hF
  refine lv_iload_n hx hb d_R_newer_0 rfl (lv_at hl 0 rfl) ?_
  refine lv_iload_n hx hb d_R_newer_1 rfl (lv_at hl 1 rfl) ?_
  refine lv_icmp_lt hx hb d_R_newer_2 (tgt := 11) (by decide) (fun h2 => ?_) (fun h2 => ?_)
  · have hF := tx_t h2 hF
    refine lv_iload_n hx hb d_R_newer_11 rfl (lv_at hl 0 rfl) ?_
    refine lv_iload_n hx hb d_R_newer_12 rfl (lv_at hl 1 rfl) ?_
    refine lv_isub hx hb d_R_newer_13 ?_
    refine lv_sipush (v := (4095 : Int32)) hx hb d_R_newer_14 (by decide) ?_
    refine lv_iadd hx hb d_R_newer_17 ?_
    exact J18 _ ((a1 - a2) + (4095 : Int32)) (lv_sub hl [] rfl) hF
  · have hF := tx_f h2 hF
    refine lv_iload_n hx hb d_R_newer_5 rfl (lv_at hl 0 rfl) ?_
    refine lv_iload_n hx hb d_R_newer_6 rfl (lv_at hl 1 rfl) ?_
    refine lv_isub hx hb d_R_newer_7 ?_
    refine lv_goto hx hb d_R_newer_8 (tgt := 18) (by decide) ?_
    exact J18 _ (a1 - a2) (lv_sub hl [] rfl) hF
abbrev rm_R_isPage : Room := { frames := 1, cells := 0, slots := 0, locals := 21 }
set_option maxHeartbeats 4000000 in
set_option maxRecDepth 100000 in
theorem c_R_isPage (l : Launch) (a1 : Int32) (a2 : Int32) (r : Int32)  (hF : f_R_isPage a1 a2 = some r) : Met l y_R_isPage ws_R_isPage rm_R_isPage (va_Pc [.int a1, .int a2] (fun _ => True)) (vp_Si (fun z => r = z)) 0 0 (fun _ => False) := by
  refine Met.ofW (cc := b_R_isPage) (maxL := 2) (ret := some .boolean) (by decide +kernel) rfl ?_
  intro p e s m args below meth c s₁ B hml hv
  obtain ⟨hargs, -⟩ := hv
  have hx := B.exec
  have hb := B.bytes
  have hr := B.returns
  have hts := atoms_spec (ws := ws_R_isPage) B.pre
  have hown : s.vm.findClass "FlashStoreModel" = some m.cls := findClass_of_methodNamed B.named
  have hlocks := B.notSynchronized
  have hl := lv_entry ([.int a1, .int a2]) (n := 2) (Nat.le_of_ble_eq_true rfl)
  have hen : entryFrame m args 2 = _ := (congrArg (fun z => entryFrame m z 2) hargs).trans (lg_entry_eq m ([.int a1, .int a2]) 2)
  refine W.eq hen ?_
  clear hen
  generalize (lg_sl ([.int a1, .int a2]) ++ List.replicate (2 - (lg_sl ([.int a1, .int a2])).length) Slot.unset).toArray = ls at hl ⊢
  have hl : lv_has ls 2 [(0, .int a1), (1, .int a2)] := hl
  have J21 : ∀ (ls : Array Slot) (z0 : Int32), lv_has ls 2 [] → f_R_isPage_J21 z0 = some r → W p l e (headSpec ws_R_isPage rm_R_isPage).room s m args below meth c s.heap [] 0 0 (MQ below (vp_Si (fun z => r = z)) args s 0 0 (fun _ => False)) (F0 m 21 ls [.int z0]) := by
    intro ls z0 hl hF
    have hF : (if ¬ (z0 = 0 ∨ z0 = 1) then none else some z0) = some r := hF
    obtain ⟨hz, hF⟩ := tx_g hF
    have hz := Classical.not_not.mp hz
    exact W.zret hx hb hr (tx_z hz) (fun t ht hW => ⟨_, rfl, (Option.some.inj hF).symm, ht⟩) (fun q h => by cases h) d_R_isPage_21
  have J20 : ∀ (ls : Array Slot), lv_has ls 2 [] → f_R_isPage_J20  = some r → W p l e (headSpec ws_R_isPage rm_R_isPage).room s m args below meth c s.heap [] 0 0 (MQ below (vp_Si (fun z => r = z)) args s 0 0 (fun _ => False)) (F0 m 20 ls []) := by
    intro ls hl hF
    have hF : (f_R_isPage_J21 (0 : Int32)) = some r := hF
    refine lv_iconst (v := (0 : Int32)) hx hb d_R_isPage_20 (by decide) ?_
    exact J21 _ (0 : Int32) hl hF
  have hF : ((f_R_out a1 (4 : Int32)).bind fun r2 => if r2 = 0 then ((f_R_out a2 (4 : Int32)).bind fun r10 => if r10 = 0 then (f_R_isPage_J21 (1 : Int32)) else (f_R_isPage_J20 )) else (f_R_isPage_J20 )) = some r := hF
  refine lv_iload_n hx hb d_R_isPage_0 rfl (lv_at hl 0 rfl) ?_
  refine lv_iconst (v := (4 : Int32)) hx hb d_R_isPage_1 (by decide) ?_
  obtain ⟨r2, hc2, hF⟩ := tx_b hF
  refine vp_callSi (W.runS (As := [.int a1, .int (4 : Int32)]) (rest := []) ⟨hx, hb, hml, hown, hts⟩ (c_R_out l a1 (4 : Int32) r2 hc2) (va_cwS 2 hts (tg_S bq_2_235 bq_2_236 bq_1_4 bq_2_237) rfl rfl rfl (by decide +kernel) ⟨Nat.le_of_ble_eq_true rfl, Nat.le_of_ble_eq_true rfl⟩) ⟨tx_bl0, tx_pre0⟩ rfl rfl hl.1 rfl (lv_room (Nat.le_of_ble_eq_true rfl)) d_R_isPage_2 ⟨Nat.zero_le _, Nat.zero_le _⟩) (fun zz hz => ?_)
  subst hz
  refine lv_if_ne hx hb d_R_isPage_5 (tgt := 20) (by decide) (fun h5 => ?_) (fun h5 => ?_)
  · have hF := tx_f h5 hF
    exact J20 _ (lv_sub hl [] rfl) hF
  · have hF := tx_t h5 hF
    refine lv_iload_n hx hb d_R_isPage_8 rfl (lv_at hl 1 rfl) ?_
    refine lv_iconst (v := (4 : Int32)) hx hb d_R_isPage_9 (by decide) ?_
    obtain ⟨r10, hc10, hF⟩ := tx_b hF
    refine vp_callSi (W.runS (As := [.int a2, .int (4 : Int32)]) (rest := []) ⟨hx, hb, hml, hown, hts⟩ (c_R_out l a2 (4 : Int32) r10 hc10) (va_cwS 2 hts (tg_S bq_2_235 bq_2_236 bq_1_4 bq_2_237) rfl rfl rfl (by decide +kernel) ⟨Nat.le_of_ble_eq_true rfl, Nat.le_of_ble_eq_true rfl⟩) ⟨tx_bl0, tx_pre0⟩ rfl rfl hl.1 rfl (lv_room (Nat.le_of_ble_eq_true rfl)) d_R_isPage_10 ⟨Nat.zero_le _, Nat.zero_le _⟩) (fun zz hz => ?_)
    subst hz
    refine lv_if_ne hx hb d_R_isPage_13 (tgt := 20) (by decide) (fun h13 => ?_) (fun h13 => ?_)
    · have hF := tx_f h13 hF
      exact J20 _ (lv_sub hl [] rfl) hF
    · have hF := tx_t h13 hF
      refine lv_iconst (v := (1 : Int32)) hx hb d_R_isPage_16 (by decide) ?_
      refine lv_goto hx hb d_R_isPage_17 (tgt := 21) (by decide) ?_
      exact J21 _ (1 : Int32) (lv_sub hl [] rfl) hF
abbrev rm_R_thrown : Room := { frames := 0, cells := 0, slots := 0, locals := 0 }
set_option maxHeartbeats 4000000 in
set_option maxRecDepth 100000 in
theorem c_R_thrown (l : Launch) (dC : Nat → ClassId) (dI : Nat → Nat → Nat) (cA : ClassId) (h0 q1 q2 q3 q4 q5 q6 q7 : Nat) (rm fl us lg se we wh : Nat → Int32) (th nx md wr : Int32)  (r : Int32)  (hF : f_R_thrown th = some r) : Met l y_R_thrown ws_R_thrown rm_R_thrown (tx_PR [.ref h0] (dC, dI) [(cA, .int)] (wR cA h0 q1 q2 q3 q4 q5 q6 q7 rm fl us lg se we wh th nx md wr)) (vp_Si (fun z => r = z)) 0 0 (fun _ => False) := by
  refine Met.ofW (cc := b_R_thrown) (maxL := 1) (ret := some .int) (by decide +kernel) rfl ?_
  intro p e s m args below meth c s₁ B hml hv
  obtain ⟨hargs, hP, hK⟩ := hv
  have hx := B.exec
  have hb := B.bytes
  have hr := B.returns
  have hts := atoms_spec (ws := ws_R_thrown) B.pre
  have hown : s.vm.findClass "FlashStoreModel" = some m.cls := findClass_of_methodNamed B.named
  have hlocks := B.notSynchronized
  have w0 := (hts _ (List.mem_cons_of_mem _ bq_2_192))
  have hl := lv_entry ([.ref h0]) (n := 1) (Nat.le_of_ble_eq_true rfl)
  have hen : entryFrame m args 1 = _ := (congrArg (fun z => entryFrame m z 1) hargs).trans (lg_entry_eq m ([.ref h0]) 1)
  refine W.eq hen ?_
  clear hen
  generalize (lg_sl ([.ref h0]) ++ List.replicate (1 - (lg_sl ([.ref h0])).length) Slot.unset).toArray = ls at hl ⊢
  have hl : lv_has ls 1 [(0, .ref h0)] := hl
  have hF : (some th) = some r := hF
  refine lv_aload_n hx hb d_R_thrown_0 rfl (lv_at hl 0 rfl) ?_
  refine va_get (D := (dC, dI)) (ci := 2) (v := .int th) (C := "FlashStoreModel") (T := TR) (N := 11) hx hb hts inTR hown hK hP 0 rfl rfl 0 (by decide) w0 (fun _ h9 => h9) rfl d_R_thrown_1 ?_
  exact W.iret hx hb hr (fun t ht hW => ⟨_, rfl, (Option.some.inj hF).symm, ht⟩) (fun q h => by cases h) d_R_thrown_4
abbrev rm_R_fail : Room := { frames := 0, cells := 0, slots := 0, locals := 0 }
set_option maxHeartbeats 4000000 in
set_option maxRecDepth 100000 in
theorem c_R_fail (l : Launch) (dC : Nat → ClassId) (dI : Nat → Nat → Nat) (cA : ClassId) (h0 q1 q2 q3 q4 q5 q6 q7 sz : Nat) (rm fl us lg se we wh : Nat → Int32) (th nx md wr : Int32) (a1 : Int32) (r : Int32) (th' : Int32) (hF : f_R_fail th a1 = some (r, th')) : Met l y_R_fail ws_R_fail rm_R_fail (tx_PW [.ref h0, .int a1] (dC, dI) [(cA, .int)] (wR cA h0 q1 q2 q3 q4 q5 q6 q7 rm fl us lg se we wh th nx md wr) sz) (va_Qi (S := Unit) (fun z _ => r = z) (fun _ t => va_P (dC, dI) vwCl (wR cA h0 q1 q2 q3 q4 q5 q6 q7 rm fl us lg se we wh (th') nx md wr) t.heap ∧ va_D (va_A (wR cA h0 q1 q2 q3 q4 q5 q6 q7 rm fl us lg se we wh th nx md wr) sz) (wR cA h0 q1 q2 q3 q4 q5 q6 q7 rm fl us lg se we wh (th') nx md wr)) (va_A (wR cA h0 q1 q2 q3 q4 q5 q6 q7 rm fl us lg se we wh th nx md wr) sz)) 0 0 (va_A (wR cA h0 q1 q2 q3 q4 q5 q6 q7 rm fl us lg se we wh th nx md wr) sz) := by
  refine Met.ofW (cc := b_R_fail) (maxL := 2) (ret := some .int) (by decide +kernel) rfl ?_
  intro p e s m args below meth c s₁ B hml hv
  obtain ⟨hargs, hsz, hP, hK, hD0, hNw⟩ := hv
  have hx := B.exec
  have hb := B.bytes
  have hr := B.returns
  have hts := atoms_spec (ws := ws_R_fail) B.pre
  have hown : s.vm.findClass "FlashStoreModel" = some m.cls := findClass_of_methodNamed B.named
  have hlocks := B.notSynchronized
  subst hsz
  have hD := hD0.self (sz := s.heap.size)
  generalize hAe : va_A (wR cA h0 q1 q2 q3 q4 q5 q6 q7 rm fl us lg se we wh th nx md wr) s.heap.size = A at hD ⊢
  have hA : ∀ q : Nat, s.heap.size ≤ q → A q := fun q h => by rw [← hAe]; exact Or.inr h
  have hS : va_S A s.heap s.heap [] := va_S.rf
  have hP : va_P (dC, dI) vwCl (wR cA h0 q1 q2 q3 q4 q5 q6 q7 rm fl us lg se we wh th nx md wr) s.heap := hP
  have w0 := (hts _ (List.mem_cons_of_mem _ bq_2_192))
  have hl := lv_entry ([.ref h0, .int a1]) (n := 2) (Nat.le_of_ble_eq_true rfl)
  have hen : entryFrame m args 2 = _ := (congrArg (fun z => entryFrame m z 2) hargs).trans (lg_entry_eq m ([.ref h0, .int a1]) 2)
  refine W.eq hen ?_
  clear hen
  generalize (lg_sl ([.ref h0, .int a1]) ++ List.replicate (2 - (lg_sl ([.ref h0, .int a1])).length) Slot.unset).toArray = ls at hl ⊢
  have hl : lv_has ls 2 [(0, .ref h0), (1, .int a1)] := hl
  have hF : (some ((0 : Int32), a1)) = some (r, th') := hF
  refine lv_aload_n hx hb d_R_fail_0 rfl (lv_at hl 0 rfl) ?_
  refine lv_iload_n hx hb d_R_fail_1 rfl (lv_at hl 1 rfl) ?_
  refine va_put (D := (dC, dI)) (ci := 2) (v := .int a1) (ty := .int) (C := "FlashStoreModel") (T := TR) (N := 11) hx hb hts inTR tyTR tyTR_ok nmTR hown hK hP hD hS 0 rfl rfl 0 (by decide) w0 (fun _ h9 => h9) rfl (by decide +kernel) rfl rfl (Nat.le_of_ble_eq_true rfl) d_R_fail_2 (fun H locs hP hD hS => ?_)
  have hP : va_P (dC, dI) vwCl (wR cA h0 q1 q2 q3 q4 q5 q6 q7 rm fl us lg se we wh a1 nx md wr) H := hP
  have hD : va_D A (wR cA h0 q1 q2 q3 q4 q5 q6 q7 rm fl us lg se we wh a1 nx md wr) := hD
  refine lv_iconst (v := (0 : Int32)) hx hb d_R_fail_5 (by decide) ?_
  cases hF
  exact W.iret hx hb hr (fun t ht hW => ⟨⟨_, (), rfl, rfl, by rw [ht]; exact hP, hD⟩, hS.F ht⟩) hS.2.2 d_R_fail_6
abbrev rm_R_left : Room := { frames := 0, cells := 0, slots := 0, locals := 0 }
set_option maxHeartbeats 4000000 in
set_option maxRecDepth 100000 in
theorem c_R_left (l : Launch) (dC : Nat → ClassId) (dI : Nat → Nat → Nat) (cA : ClassId) (h0 q1 q2 q3 q4 q5 q6 q7 : Nat) (rm fl us lg se we wh : Nat → Int32) (th nx md wr : Int32) (a1 : Int32) (r : Int32)  (hF : f_R_left rm a1 = some r) : Met l y_R_left ws_R_left rm_R_left (tx_PR [.ref h0, .int a1] (dC, dI) [(cA, .int)] (wR cA h0 q1 q2 q3 q4 q5 q6 q7 rm fl us lg se we wh th nx md wr)) (vp_Si (fun z => r = z)) 0 0 (fun _ => False) := by
  refine Met.ofW (cc := b_R_left) (maxL := 4) (ret := some .int) (by decide +kernel) rfl ?_
  intro p e s m args below meth c s₁ B hml hv
  obtain ⟨hargs, hP, hK⟩ := hv
  have hx := B.exec
  have hb := B.bytes
  have hr := B.returns
  have hts := atoms_spec (ws := ws_R_left) B.pre
  have hown : s.vm.findClass "FlashStoreModel" = some m.cls := findClass_of_methodNamed B.named
  have hlocks := B.notSynchronized
  have w0 := (hts _ (List.mem_cons_of_mem _ bq_2_193))
  have hl := lv_entry ([.ref h0, .int a1]) (n := 4) (Nat.le_of_ble_eq_true rfl)
  have hen : entryFrame m args 4 = _ := (congrArg (fun z => entryFrame m z 4) hargs).trans (lg_entry_eq m ([.ref h0, .int a1]) 4)
  refine W.eq hen ?_
  clear hen
  generalize (lg_sl ([.ref h0, .int a1]) ++ List.replicate (4 - (lg_sl ([.ref h0, .int a1])).length) Slot.unset).toArray = ls at hl ⊢
  have hl : lv_has ls 4 [(0, .ref h0), (1, .int a1)] := hl
  have J28 : ∀ (rc : (Nat → Int32) → Int32 → Int32 → Int32 → Option (Int32)) (hrec0 : ∀ (ls : Array Slot) (v1 : Int32) (v2 : Int32) (v3 : Int32), lv_has ls 4 [(0, .ref h0), (1, .int v1), (2, .int v2), (3, .int v3)] → rc rm v1 v2 v3 = some r → W p l e (headSpec ws_R_left rm_R_left).room s m args below meth c s.heap [] 0 0 (MQ below (vp_Si (fun z => r = z)) args s 0 0 (fun _ => False)) (F0 m 4 ls [])), ∀ (ls : Array Slot) (v1 : Int32) (v2 : Int32) (v3 : Int32), lv_has ls 4 [(0, .ref h0), (1, .int v1), (2, .int v2), (3, .int v3)] → f_R_left_J28 rc rm v1 v2 v3 = some r → W p l e (headSpec ws_R_left rm_R_left).room s m args below meth c s.heap [] 0 0 (MQ below (vp_Si (fun z => r = z)) args s 0 0 (fun _ => False)) (F0 m 28 ls []) := by
    intro rc hrec0
    intro ls v1 v2 v3 hl hF
    have hF : (rc rm v1 v2 (v3 + (1 : Int32))) = some r := hF
    refine lv_iinc (k := 3) (v := (v3 + (1 : Int32))) hx hb d_R_left_28 hl rfl rfl (by decide) rfl (fun ls hl => ?_)
    have hl : lv_has ls 4 [(3, .int (v3 + (1 : Int32))), (0, .ref h0), (1, .int v1), (2, .int v2)] := hl
    refine lv_goto hx hb d_R_left_31 (tgt := 4) (by decide) ?_
    exact hrec0 _ v1 v2 (v3 + (1 : Int32)) (lv_sub hl [1, 2, 3, 0] rfl) hF
  have LH : ∀ n : Nat, (∀ (ls : Array Slot) (v1 : Int32) (v2 : Int32) (v3 : Int32), lv_has ls 4 [(0, .ref h0), (1, .int v1), (2, .int v2), (3, .int v3)] → f_R_left_H n rm v1 v2 v3 = some r → W p l e (headSpec ws_R_left rm_R_left).room s m args below meth c s.heap [] 0 0 (MQ below (vp_Si (fun z => r = z)) args s 0 0 (fun _ => False)) (F0 m 4 ls [])) := by
    intro n
    induction n with
    | zero =>
      exact (by intro ls v1 v2 v3 hl hF; have hF : (none : Option (Int32)) = _ := hF; cases hF)
    | succ n ih =>
      have hrec0 := ih
      intro ls v1 v2 v3 hl hF
      have hF : (if (31 : Int32) ≤ v3 then (some v2) else (if ((v1 >>> (v3 &&& 31)) &&& (1 : Int32)) = (1 : Int32) then (if v3 < 0 ∨ 31 ≤ v3.toNatClampNeg then none else f_R_left_J28 (f_R_left_H n) rm v1 (v2 ^^^ (rm v3.toNatClampNeg)) v3) else (f_R_left_J28 (f_R_left_H n) rm v1 v2 v3))) = some r := hF
      refine lv_iload_n hx hb d_R_left_4 rfl (lv_at hl 3 rfl) ?_
      refine lv_bipush (v := (31 : Int32)) hx hb d_R_left_5 (by decide) ?_
      refine lv_icmp_ge hx hb d_R_left_7 (tgt := 34) (by decide) (fun h7 => ?_) (fun h7 => ?_)
      · have hF := tx_t h7 hF
        refine lv_iload_n hx hb d_R_left_34 rfl (lv_at hl 2 rfl) ?_
        exact W.iret hx hb hr (fun t ht hW => ⟨_, rfl, (Option.some.inj hF).symm, ht⟩) (fun q h => by cases h) d_R_left_35
      · have hF := tx_f h7 hF
        refine lv_iload_n hx hb d_R_left_10 rfl (lv_at hl 1 rfl) ?_
        refine lv_iload_n hx hb d_R_left_11 rfl (lv_at hl 3 rfl) ?_
        refine lv_ishr hx hb d_R_left_12 ?_
        refine lv_iconst (v := (1 : Int32)) hx hb d_R_left_13 (by decide) ?_
        refine lv_iand hx hb d_R_left_14 ?_
        refine lv_iconst (v := (1 : Int32)) hx hb d_R_left_15 (by decide) ?_
        refine lv_icmp_ne hx hb d_R_left_16 (tgt := 28) (by decide) (fun h16 => ?_) (fun h16 => ?_)
        · have hF := tx_f h16 hF
          exact J28 _ hrec0 _ v1 v2 v3 hl hF
        · have hF := tx_t h16 hF
          refine lv_iload_n hx hb d_R_left_19 rfl (lv_at hl 2 rfl) ?_
          refine lv_aload_n hx hb d_R_left_20 rfl (lv_at hl 0 rfl) ?_
          refine va_get (D := (dC, dI)) (ci := 2) (v := .ref q1) (C := "FlashStoreModel") (T := TR) (N := 11) hx hb hts inTR hown hK hP 0 rfl rfl 1 (by decide) w0 (fun _ h9 => h9) rfl d_R_left_21 ?_
          refine lv_iload_n hx hb d_R_left_24 rfl (lv_at hl 3 rfl) ?_
          obtain ⟨hi25, hF⟩ := tx_g hF
          refine va_iald hx hb hK hP 1 0 rfl rfl hi25 d_R_left_25 ?_
          refine lv_ixor hx hb d_R_left_26 ?_
          refine lv_istore_n hx hb d_R_left_27 rfl hl (by decide) rfl (fun ls hl => ?_)
          have hl : lv_has ls 4 [(2, .int (v2 ^^^ (rm v3.toNatClampNeg))), (0, .ref h0), (1, .int v1), (3, .int v3)] := hl
          exact J28 _ hrec0 _ v1 (v2 ^^^ (rm v3.toNatClampNeg)) v3 (lv_sub hl [1, 2, 0, 3] rfl) hF
  obtain hrec0 := LH 100
  have hF : (f_R_left_H 100 rm a1 (0 : Int32) (0 : Int32)) = some r := hF
  refine lv_iconst (v := (0 : Int32)) hx hb d_R_left_0 (by decide) ?_
  refine lv_istore_n hx hb d_R_left_1 rfl hl (by decide) rfl (fun ls hl => ?_)
  have hl : lv_has ls 4 [(2, .int (0 : Int32)), (0, .ref h0), (1, .int a1)] := hl
  refine lv_iconst (v := (0 : Int32)) hx hb d_R_left_2 (by decide) ?_
  refine lv_istore_n hx hb d_R_left_3 rfl hl (by decide) rfl (fun ls hl => ?_)
  have hl : lv_has ls 4 [(3, .int (0 : Int32)), (2, .int (0 : Int32)), (0, .ref h0), (1, .int a1)] := hl
  exact hrec0 _ a1 (0 : Int32) (0 : Int32) (lv_sub hl [2, 3, 1, 0] rfl) hF
abbrev rm_R_codeword : Room := { frames := 1, cells := 0, slots := 0, locals := 23 }
set_option maxHeartbeats 4000000 in
set_option maxRecDepth 100000 in
theorem c_R_codeword (l : Launch) (dC : Nat → ClassId) (dI : Nat → Nat → Nat) (cA : ClassId) (h0 q1 q2 q3 q4 q5 q6 q7 : Nat) (rm fl us lg se we wh : Nat → Int32) (th nx md wr : Int32) (a1 : Int32) (r : Int32)  (hF : f_R_codeword rm a1 = some r) : Met l y_R_codeword ws_R_codeword rm_R_codeword (tx_PR [.ref h0, .int a1] (dC, dI) [(cA, .int)] (wR cA h0 q1 q2 q3 q4 q5 q6 q7 rm fl us lg se we wh th nx md wr)) (vp_Si (fun z => r = z)) 0 0 (fun _ => False) := by
  refine Met.ofW (cc := b_R_codeword) (maxL := 2) (ret := some .int) (by decide +kernel) rfl ?_
  intro p e s m args below meth c s₁ B hml hv
  obtain ⟨hargs, hP, hK⟩ := hv
  have hx := B.exec
  have hb := B.bytes
  have hr := B.returns
  have hts := atoms_spec (ws := ws_R_codeword) B.pre
  have hown : s.vm.findClass "FlashStoreModel" = some m.cls := findClass_of_methodNamed B.named
  have hlocks := B.notSynchronized
  have w0 := hts (.constant "FlashStoreModel" 37 (32768 : Int32)) (by decide +kernel)
  have hl := lv_entry ([.ref h0, .int a1]) (n := 2) (Nat.le_of_ble_eq_true rfl)
  have hen : entryFrame m args 2 = _ := (congrArg (fun z => entryFrame m z 2) hargs).trans (lg_entry_eq m ([.ref h0, .int a1]) 2)
  refine W.eq hen ?_
  clear hen
  generalize (lg_sl ([.ref h0, .int a1]) ++ List.replicate (2 - (lg_sl ([.ref h0, .int a1])).length) Slot.unset).toArray = ls at hl ⊢
  have hl : lv_has ls 2 [(0, .ref h0), (1, .int a1)] := hl
  have hF : ((f_R_left rm ((32768 : Int32) * a1)).bind fun r9 => some (((32768 : Int32) * a1) + r9)) = some r := hF
  refine lv_ldc hx hb hown w0 d_R_codeword_0 ?_
  refine lv_iload_n hx hb d_R_codeword_2 rfl (lv_at hl 1 rfl) ?_
  refine lv_imul hx hb d_R_codeword_3 ?_
  refine lv_aload_n hx hb d_R_codeword_4 rfl (lv_at hl 0 rfl) ?_
  refine lv_ldc hx hb hown w0 d_R_codeword_5 ?_
  refine lv_iload_n hx hb d_R_codeword_7 rfl (lv_at hl 1 rfl) ?_
  refine lv_imul hx hb d_R_codeword_8 ?_
  obtain ⟨r9, hc9, hF⟩ := tx_b hF
  refine vp_callSi (W.runV (As := [.int ((32768 : Int32) * a1)]) (rest := [.int ((32768 : Int32) * a1)]) ⟨hx, hb, hml, hown, hts⟩ (c_R_left l dC dI cA h0 q1 q2 q3 q4 q5 q6 q7 rm fl us lg se we wh th nx md wr ((32768 : Int32) * a1) r9 hc9) (cwV 1 hts (tg_V bq_3_7 bq_3_9 bq_s_19 bq_1_4 bq_3_10) rfl rfl rfl (by decide +kernel) ⟨Nat.le_of_ble_eq_true rfl, Nat.le_of_ble_eq_true rfl⟩) ⟨tx_blR, (va_recv (ci := 2) (q0 := 0) hK hP rfl rfl), tx_preR (hP) hK⟩ rfl rfl hl.1 rfl (lv_room (Nat.le_of_ble_eq_true rfl)) d_R_codeword_9 ⟨Nat.zero_le _, Nat.zero_le _⟩) (fun zz hz => ?_)
  subst hz
  refine lv_iadd hx hb d_R_codeword_12 ?_
  exact W.iret hx hb hr (fun t ht hW => ⟨_, rfl, (Option.some.inj hF).symm, ht⟩) (fun q h => by cases h) d_R_codeword_13
abbrev rm_R_dataOf : Room := { frames := 1, cells := 0, slots := 0, locals := 23 }
set_option maxHeartbeats 4000000 in
set_option maxRecDepth 100000 in
theorem c_R_dataOf (l : Launch) (dC : Nat → ClassId) (dI : Nat → Nat → Nat) (cA : ClassId) (h0 q1 q2 q3 q4 q5 q6 q7 sz : Nat) (rm fl us lg se we wh : Nat → Int32) (th nx md wr : Int32) (a1 : Int32) (r : Int32) (wr' : Int32) (hF : f_R_dataOf rm wr a1 = some (r, wr')) : Met l y_R_dataOf ws_R_dataOf rm_R_dataOf (tx_PW [.ref h0, .int a1] (dC, dI) [(cA, .int)] (wR cA h0 q1 q2 q3 q4 q5 q6 q7 rm fl us lg se we wh th nx md wr) sz) (va_Qi (S := Unit) (fun z _ => r = z) (fun _ t => va_P (dC, dI) vwCl (wR cA h0 q1 q2 q3 q4 q5 q6 q7 rm fl us lg se we wh th nx md (wr')) t.heap ∧ va_D (va_A (wR cA h0 q1 q2 q3 q4 q5 q6 q7 rm fl us lg se we wh th nx md wr) sz) (wR cA h0 q1 q2 q3 q4 q5 q6 q7 rm fl us lg se we wh th nx md (wr'))) (va_A (wR cA h0 q1 q2 q3 q4 q5 q6 q7 rm fl us lg se we wh th nx md wr) sz)) 0 0 (va_A (wR cA h0 q1 q2 q3 q4 q5 q6 q7 rm fl us lg se we wh th nx md wr) sz) := by
  refine Met.ofW (cc := b_R_dataOf) (maxL := 7) (ret := some .int) (by decide +kernel) rfl ?_
  intro p e s m args below meth c s₁ B hml hv
  obtain ⟨hargs, hsz, hP, hK, hD0, hNw⟩ := hv
  have hx := B.exec
  have hb := B.bytes
  have hr := B.returns
  have hts := atoms_spec (ws := ws_R_dataOf) B.pre
  have hown : s.vm.findClass "FlashStoreModel" = some m.cls := findClass_of_methodNamed B.named
  have hlocks := B.notSynchronized
  subst hsz
  have hD := hD0.self (sz := s.heap.size)
  generalize hAe : va_A (wR cA h0 q1 q2 q3 q4 q5 q6 q7 rm fl us lg se we wh th nx md wr) s.heap.size = A at hD ⊢
  have hA : ∀ q : Nat, s.heap.size ≤ q → A q := fun q h => by rw [← hAe]; exact Or.inr h
  have hS : va_S A s.heap s.heap [] := va_S.rf
  have hP : va_P (dC, dI) vwCl (wR cA h0 q1 q2 q3 q4 q5 q6 q7 rm fl us lg se we wh th nx md wr) s.heap := hP
  have w0 := (hts _ (List.mem_cons_of_mem _ bq_2_202))
  have w1 := (hts _ (List.mem_cons_of_mem _ bq_2_193))
  have hl := lv_entry ([.ref h0, .int a1]) (n := 7) (Nat.le_of_ble_eq_true rfl)
  have hen : entryFrame m args 7 = _ := (congrArg (fun z => entryFrame m z 7) hargs).trans (lg_entry_eq m ([.ref h0, .int a1]) 7)
  refine W.eq hen ?_
  clear hen
  generalize (lg_sl ([.ref h0, .int a1]) ++ List.replicate (7 - (lg_sl ([.ref h0, .int a1])).length) Slot.unset).toArray = ls at hl ⊢
  have hl : lv_has ls 7 [(0, .ref h0), (1, .int a1)] := hl
  have LH : ∀ n : Nat, (∀ (H : Heap) (locs : List Loc) (ls : Array Slot) (wr : Int32) (v1 : Int32) (v2 : Int32) (v3 : Int32), va_P (dC, dI) vwCl (wR cA h0 q1 q2 q3 q4 q5 q6 q7 rm fl us lg se we wh th nx md wr) H → va_D A (wR cA h0 q1 q2 q3 q4 q5 q6 q7 rm fl us lg se we wh th nx md wr) → va_S A s.heap H locs → lv_has ls 7 [(0, .ref h0), (1, .int v1), (2, .int v2), (3, .int v3)] → f_R_dataOf_H n rm wr 0 v1 v2 v3 0 0 0 = some (r, wr') → W p l e (headSpec ws_R_dataOf rm_R_dataOf).room s m args below meth c H locs 0 0 (MQ below (va_Qi (S := Unit) (fun z _ => r = z) (fun _ t => va_P (dC, dI) vwCl (wR cA h0 q1 q2 q3 q4 q5 q6 q7 rm fl us lg se we wh th nx md (wr')) t.heap ∧ va_D A (wR cA h0 q1 q2 q3 q4 q5 q6 q7 rm fl us lg se we wh th nx md (wr'))) A) args s 0 0 A) (F0 m 22 ls [])) ∧ (∀ (H : Heap) (locs : List Loc) (ls : Array Slot) (wr : Int32) (v1 : Int32) (v2 : Int32) (v3 : Int32), va_P (dC, dI) vwCl (wR cA h0 q1 q2 q3 q4 q5 q6 q7 rm fl us lg se we wh th nx md wr) H → va_D A (wR cA h0 q1 q2 q3 q4 q5 q6 q7 rm fl us lg se we wh th nx md wr) → va_S A s.heap H locs → lv_has ls 7 [(0, .ref h0), (1, .int v1), (2, .int v2), (3, .int v3)] → f_R_dataOf_H n rm wr 1 v1 v2 v3 0 0 0 = some (r, wr') → W p l e (headSpec ws_R_dataOf rm_R_dataOf).room s m args below meth c H locs 0 0 (MQ below (va_Qi (S := Unit) (fun z _ => r = z) (fun _ t => va_P (dC, dI) vwCl (wR cA h0 q1 q2 q3 q4 q5 q6 q7 rm fl us lg se we wh th nx md (wr')) t.heap ∧ va_D A (wR cA h0 q1 q2 q3 q4 q5 q6 q7 rm fl us lg se we wh th nx md (wr'))) A) args s 0 0 A) (F0 m 60 ls [])) ∧ (∀ (H : Heap) (locs : List Loc) (ls : Array Slot) (wr : Int32) (v1 : Int32) (v2 : Int32) (v3 : Int32) (v4 : Int32), va_P (dC, dI) vwCl (wR cA h0 q1 q2 q3 q4 q5 q6 q7 rm fl us lg se we wh th nx md wr) H → va_D A (wR cA h0 q1 q2 q3 q4 q5 q6 q7 rm fl us lg se we wh th nx md wr) → va_S A s.heap H locs → lv_has ls 7 [(0, .ref h0), (1, .int v1), (2, .int v2), (3, .int v3), (4, .int v4)] → f_R_dataOf_H n rm wr 2 v1 v2 v3 v4 0 0 = some (r, wr') → W p l e (headSpec ws_R_dataOf rm_R_dataOf).room s m args below meth c H locs 0 0 (MQ below (va_Qi (S := Unit) (fun z _ => r = z) (fun _ t => va_P (dC, dI) vwCl (wR cA h0 q1 q2 q3 q4 q5 q6 q7 rm fl us lg se we wh th nx md (wr')) t.heap ∧ va_D A (wR cA h0 q1 q2 q3 q4 q5 q6 q7 rm fl us lg se we wh th nx md (wr'))) A) args s 0 0 A) (F0 m 69 ls [])) ∧ (∀ (H : Heap) (locs : List Loc) (ls : Array Slot) (wr : Int32) (v1 : Int32) (v2 : Int32) (v3 : Int32), va_P (dC, dI) vwCl (wR cA h0 q1 q2 q3 q4 q5 q6 q7 rm fl us lg se we wh th nx md wr) H → va_D A (wR cA h0 q1 q2 q3 q4 q5 q6 q7 rm fl us lg se we wh th nx md wr) → va_S A s.heap H locs → lv_has ls 7 [(0, .ref h0), (1, .int v1), (2, .int v2), (3, .int v3)] → f_R_dataOf_H n rm wr 3 v1 v2 v3 0 0 0 = some (r, wr') → W p l e (headSpec ws_R_dataOf rm_R_dataOf).room s m args below meth c H locs 0 0 (MQ below (va_Qi (S := Unit) (fun z _ => r = z) (fun _ t => va_P (dC, dI) vwCl (wR cA h0 q1 q2 q3 q4 q5 q6 q7 rm fl us lg se we wh th nx md (wr')) t.heap ∧ va_D A (wR cA h0 q1 q2 q3 q4 q5 q6 q7 rm fl us lg se we wh th nx md (wr'))) A) args s 0 0 A) (F0 m 126 ls [])) ∧ (∀ (H : Heap) (locs : List Loc) (ls : Array Slot) (wr : Int32) (v1 : Int32) (v2 : Int32) (v3 : Int32) (v4 : Int32), va_P (dC, dI) vwCl (wR cA h0 q1 q2 q3 q4 q5 q6 q7 rm fl us lg se we wh th nx md wr) H → va_D A (wR cA h0 q1 q2 q3 q4 q5 q6 q7 rm fl us lg se we wh th nx md wr) → va_S A s.heap H locs → lv_has ls 7 [(0, .ref h0), (1, .int v1), (2, .int v2), (3, .int v3), (4, .int v4)] → f_R_dataOf_H n rm wr 4 v1 v2 v3 v4 0 0 = some (r, wr') → W p l e (headSpec ws_R_dataOf rm_R_dataOf).room s m args below meth c H locs 0 0 (MQ below (va_Qi (S := Unit) (fun z _ => r = z) (fun _ t => va_P (dC, dI) vwCl (wR cA h0 q1 q2 q3 q4 q5 q6 q7 rm fl us lg se we wh th nx md (wr')) t.heap ∧ va_D A (wR cA h0 q1 q2 q3 q4 q5 q6 q7 rm fl us lg se we wh th nx md (wr'))) A) args s 0 0 A) (F0 m 135 ls [])) ∧ (∀ (H : Heap) (locs : List Loc) (ls : Array Slot) (wr : Int32) (v1 : Int32) (v2 : Int32) (v3 : Int32) (v4 : Int32) (v5 : Int32) (v6 : Int32), va_P (dC, dI) vwCl (wR cA h0 q1 q2 q3 q4 q5 q6 q7 rm fl us lg se we wh th nx md wr) H → va_D A (wR cA h0 q1 q2 q3 q4 q5 q6 q7 rm fl us lg se we wh th nx md wr) → va_S A s.heap H locs → lv_has ls 7 [(0, .ref h0), (1, .int v1), (2, .int v2), (3, .int v3), (4, .int v4), (5, .int v5), (6, .int v6)] → f_R_dataOf_H n rm wr 5 v1 v2 v3 v4 v5 v6 = some (r, wr') → W p l e (headSpec ws_R_dataOf rm_R_dataOf).room s m args below meth c H locs 0 0 (MQ below (va_Qi (S := Unit) (fun z _ => r = z) (fun _ t => va_P (dC, dI) vwCl (wR cA h0 q1 q2 q3 q4 q5 q6 q7 rm fl us lg se we wh th nx md (wr')) t.heap ∧ va_D A (wR cA h0 q1 q2 q3 q4 q5 q6 q7 rm fl us lg se we wh th nx md (wr'))) A) args s 0 0 A) (F0 m 162 ls [])) := by
    intro n
    induction n with
    | zero =>
      exact ⟨(by intro H locs ls wr v1 v2 v3 hP hD hS hl hF; have hF : (none : Option (Int32 × Int32)) = _ := hF; cases hF), (by intro H locs ls wr v1 v2 v3 hP hD hS hl hF; have hF : (none : Option (Int32 × Int32)) = _ := hF; cases hF), (by intro H locs ls wr v1 v2 v3 v4 hP hD hS hl hF; have hF : (none : Option (Int32 × Int32)) = _ := hF; cases hF), (by intro H locs ls wr v1 v2 v3 hP hD hS hl hF; have hF : (none : Option (Int32 × Int32)) = _ := hF; cases hF), (by intro H locs ls wr v1 v2 v3 v4 hP hD hS hl hF; have hF : (none : Option (Int32 × Int32)) = _ := hF; cases hF), (by intro H locs ls wr v1 v2 v3 v4 v5 v6 hP hD hS hl hF; have hF : (none : Option (Int32 × Int32)) = _ := hF; cases hF)⟩
    | succ n ih =>
      obtain ⟨hrec0, hrec1, hrec2, hrec3, hrec4, hrec5⟩ := ih
      refine ⟨?_, ?_, ?_, ?_, ?_, ?_⟩
      · intro H locs ls wr v1 v2 v3 hP hD hS hl hF
        have hF : (if (31 : Int32) ≤ v3 then (f_R_dataOf_H n rm wr 1 v1 v2 (0 : Int32) 0 0 0) else (if v3 < 0 ∨ 31 ≤ v3.toNatClampNeg then none else if (rm v3.toNatClampNeg) = v2 then (some (((v1 ^^^ ((1 : Int32) <<< (v3 &&& 31))) >>> ((15 : Int32) &&& 31)), (1 : Int32))) else (f_R_dataOf_H n rm wr 0 v1 v2 (v3 + (1 : Int32)) 0 0 0))) = some (r, wr') := hF
        refine lv_iload_n hx hb d_R_dataOf_22 rfl (lv_at hl 3 rfl) ?_
        refine lv_bipush (v := (31 : Int32)) hx hb d_R_dataOf_23 (by decide) ?_
        refine lv_icmp_ge hx hb d_R_dataOf_25 (tgt := 58) (by decide) (fun h25 => ?_) (fun h25 => ?_)
        · have hF := tx_t h25 hF
          refine lv_iconst (v := (0 : Int32)) hx hb d_R_dataOf_58 (by decide) ?_
          refine lv_istore_n hx hb d_R_dataOf_59 rfl hl (by decide) rfl (fun ls hl => ?_)
          have hl : lv_has ls 7 [(3, .int (0 : Int32)), (0, .ref h0), (1, .int v1), (2, .int v2)] := hl
          exact hrec1 _ _ _ wr v1 v2 (0 : Int32) hP hD hS (lv_sub hl [1, 2, 3, 0] rfl) hF
        · have hF := tx_f h25 hF
          refine lv_aload_n hx hb d_R_dataOf_28 rfl (lv_at hl 0 rfl) ?_
          refine va_get (D := (dC, dI)) (ci := 2) (v := .ref q1) (C := "FlashStoreModel") (T := TR) (N := 11) hx hb hts inTR hown hK hP 0 rfl rfl 1 (by decide) w1 (fun _ h9 => h9) rfl d_R_dataOf_29 ?_
          refine lv_iload_n hx hb d_R_dataOf_32 rfl (lv_at hl 3 rfl) ?_
          obtain ⟨hi33, hF⟩ := tx_g hF
          refine va_iald hx hb hK hP 1 0 rfl rfl hi33 d_R_dataOf_33 ?_
          refine lv_iload_n hx hb d_R_dataOf_34 rfl (lv_at hl 2 rfl) ?_
          refine lv_icmp_ne hx hb d_R_dataOf_35 (tgt := 52) (by decide) (fun h35 => ?_) (fun h35 => ?_)
          · have hF := tx_f h35 hF
            refine lv_iinc (k := 3) (v := (v3 + (1 : Int32))) hx hb d_R_dataOf_52 hl rfl rfl (by decide) rfl (fun ls hl => ?_)
            have hl : lv_has ls 7 [(3, .int (v3 + (1 : Int32))), (0, .ref h0), (1, .int v1), (2, .int v2)] := hl
            refine lv_goto hx hb d_R_dataOf_55 (tgt := 22) (by decide) ?_
            exact hrec0 _ _ _ wr v1 v2 (v3 + (1 : Int32)) hP hD hS (lv_sub hl [1, 2, 3, 0] rfl) hF
          · have hF := tx_t h35 hF
            refine lv_aload_n hx hb d_R_dataOf_38 rfl (lv_at hl 0 rfl) ?_
            refine lv_iconst (v := (1 : Int32)) hx hb d_R_dataOf_39 (by decide) ?_
            refine va_put (D := (dC, dI)) (ci := 2) (v := .int (1 : Int32)) (ty := .int) (C := "FlashStoreModel") (T := TR) (N := 11) hx hb hts inTR tyTR tyTR_ok nmTR hown hK hP hD hS 0 rfl rfl 10 (by decide) w0 (fun _ h9 => h9) rfl (by decide +kernel) rfl rfl (Nat.le_of_ble_eq_true rfl) d_R_dataOf_40 (fun H locs hP hD hS => ?_)
            have hP : va_P (dC, dI) vwCl (wR cA h0 q1 q2 q3 q4 q5 q6 q7 rm fl us lg se we wh th nx md (1 : Int32)) H := hP
            have hD : va_D A (wR cA h0 q1 q2 q3 q4 q5 q6 q7 rm fl us lg se we wh th nx md (1 : Int32)) := hD
            refine lv_iload_n hx hb d_R_dataOf_43 rfl (lv_at hl 1 rfl) ?_
            refine lv_iconst (v := (1 : Int32)) hx hb d_R_dataOf_44 (by decide) ?_
            refine lv_iload_n hx hb d_R_dataOf_45 rfl (lv_at hl 3 rfl) ?_
            refine lv_ishl hx hb d_R_dataOf_46 ?_
            refine lv_ixor hx hb d_R_dataOf_47 ?_
            refine lv_bipush (v := (15 : Int32)) hx hb d_R_dataOf_48 (by decide) ?_
            refine lv_ishr hx hb d_R_dataOf_50 ?_
            cases hF
            exact W.iret hx hb hr (fun t ht hW => ⟨⟨_, (), rfl, rfl, by rw [ht]; exact hP, hD⟩, hS.F ht⟩) hS.2.2 d_R_dataOf_51
      · intro H locs ls wr v1 v2 v3 hP hD hS hl hF
        have hF : (if (31 : Int32) ≤ v3 then (f_R_dataOf_H n rm wr 3 v1 v2 (0 : Int32) 0 0 0) else (f_R_dataOf_H n rm wr 2 v1 v2 v3 (0 : Int32) 0 0)) = some (r, wr') := hF
        refine lv_iload_n hx hb d_R_dataOf_60 rfl (lv_at hl 3 rfl) ?_
        refine lv_bipush (v := (31 : Int32)) hx hb d_R_dataOf_61 (by decide) ?_
        refine lv_icmp_ge hx hb d_R_dataOf_63 (tgt := 124) (by decide) (fun h63 => ?_) (fun h63 => ?_)
        · have hF := tx_t h63 hF
          refine lv_iconst (v := (0 : Int32)) hx hb d_R_dataOf_124 (by decide) ?_
          refine lv_istore_n hx hb d_R_dataOf_125 rfl hl (by decide) rfl (fun ls hl => ?_)
          have hl : lv_has ls 7 [(3, .int (0 : Int32)), (0, .ref h0), (1, .int v1), (2, .int v2)] := hl
          exact hrec3 _ _ _ wr v1 v2 (0 : Int32) hP hD hS (lv_sub hl [1, 2, 3, 0] rfl) hF
        · have hF := tx_f h63 hF
          refine lv_iconst (v := (0 : Int32)) hx hb d_R_dataOf_66 (by decide) ?_
          refine lv_istore hx hb d_R_dataOf_67 hl (by decide) rfl (fun ls hl => ?_)
          have hl : lv_has ls 7 [(4, .int (0 : Int32)), (0, .ref h0), (1, .int v1), (2, .int v2), (3, .int v3)] := hl
          exact hrec2 _ _ _ wr v1 v2 v3 (0 : Int32) hP hD hS (lv_sub hl [1, 2, 3, 4, 0] rfl) hF
      · intro H locs ls wr v1 v2 v3 v4 hP hD hS hl hF
        have hF : (if v3 ≤ v4 then (f_R_dataOf_H n rm wr 1 v1 v2 (v3 + (1 : Int32)) 0 0 0) else (if v3 < 0 ∨ 31 ≤ v3.toNatClampNeg then none else if v4 < 0 ∨ 31 ≤ v4.toNatClampNeg then none else if ((rm v3.toNatClampNeg) ^^^ (rm v4.toNatClampNeg)) = v2 then (some ((((v1 ^^^ ((1 : Int32) <<< (v3 &&& 31))) ^^^ ((1 : Int32) <<< (v4 &&& 31))) >>> ((15 : Int32) &&& 31)), (2 : Int32))) else (f_R_dataOf_H n rm wr 2 v1 v2 v3 (v4 + (1 : Int32)) 0 0))) = some (r, wr') := hF
        refine lv_iload hx hb d_R_dataOf_69 (lv_at hl 4 rfl) ?_
        refine lv_iload_n hx hb d_R_dataOf_71 rfl (lv_at hl 3 rfl) ?_
        refine lv_icmp_ge hx hb d_R_dataOf_72 (tgt := 118) (by decide) (fun h72 => ?_) (fun h72 => ?_)
        · have hF := tx_t h72 hF
          refine lv_iinc (k := 3) (v := (v3 + (1 : Int32))) hx hb d_R_dataOf_118 hl rfl rfl (by decide) rfl (fun ls hl => ?_)
          have hl : lv_has ls 7 [(3, .int (v3 + (1 : Int32))), (0, .ref h0), (1, .int v1), (2, .int v2), (4, .int v4)] := hl
          refine lv_goto hx hb d_R_dataOf_121 (tgt := 60) (by decide) ?_
          exact hrec1 _ _ _ wr v1 v2 (v3 + (1 : Int32)) hP hD hS (lv_sub hl [1, 2, 3, 0] rfl) hF
        · have hF := tx_f h72 hF
          refine lv_aload_n hx hb d_R_dataOf_75 rfl (lv_at hl 0 rfl) ?_
          refine va_get (D := (dC, dI)) (ci := 2) (v := .ref q1) (C := "FlashStoreModel") (T := TR) (N := 11) hx hb hts inTR hown hK hP 0 rfl rfl 1 (by decide) w1 (fun _ h9 => h9) rfl d_R_dataOf_76 ?_
          refine lv_iload_n hx hb d_R_dataOf_79 rfl (lv_at hl 3 rfl) ?_
          obtain ⟨hi80, hF⟩ := tx_g hF
          refine va_iald hx hb hK hP 1 0 rfl rfl hi80 d_R_dataOf_80 ?_
          refine lv_aload_n hx hb d_R_dataOf_81 rfl (lv_at hl 0 rfl) ?_
          refine va_get (D := (dC, dI)) (ci := 2) (v := .ref q1) (C := "FlashStoreModel") (T := TR) (N := 11) hx hb hts inTR hown hK hP 0 rfl rfl 1 (by decide) w1 (fun _ h9 => h9) rfl d_R_dataOf_82 ?_
          refine lv_iload hx hb d_R_dataOf_85 (lv_at hl 4 rfl) ?_
          obtain ⟨hi87, hF⟩ := tx_g hF
          refine va_iald hx hb hK hP 1 0 rfl rfl hi87 d_R_dataOf_87 ?_
          refine lv_ixor hx hb d_R_dataOf_88 ?_
          refine lv_iload_n hx hb d_R_dataOf_89 rfl (lv_at hl 2 rfl) ?_
          refine lv_icmp_ne hx hb d_R_dataOf_90 (tgt := 112) (by decide) (fun h90 => ?_) (fun h90 => ?_)
          · have hF := tx_f h90 hF
            refine lv_iinc (k := 4) (v := (v4 + (1 : Int32))) hx hb d_R_dataOf_112 hl rfl rfl (by decide) rfl (fun ls hl => ?_)
            have hl : lv_has ls 7 [(4, .int (v4 + (1 : Int32))), (0, .ref h0), (1, .int v1), (2, .int v2), (3, .int v3)] := hl
            refine lv_goto hx hb d_R_dataOf_115 (tgt := 69) (by decide) ?_
            exact hrec2 _ _ _ wr v1 v2 v3 (v4 + (1 : Int32)) hP hD hS (lv_sub hl [1, 2, 3, 4, 0] rfl) hF
          · have hF := tx_t h90 hF
            refine lv_aload_n hx hb d_R_dataOf_93 rfl (lv_at hl 0 rfl) ?_
            refine lv_iconst (v := (2 : Int32)) hx hb d_R_dataOf_94 (by decide) ?_
            refine va_put (D := (dC, dI)) (ci := 2) (v := .int (2 : Int32)) (ty := .int) (C := "FlashStoreModel") (T := TR) (N := 11) hx hb hts inTR tyTR tyTR_ok nmTR hown hK hP hD hS 0 rfl rfl 10 (by decide) w0 (fun _ h9 => h9) rfl (by decide +kernel) rfl rfl (Nat.le_of_ble_eq_true rfl) d_R_dataOf_95 (fun H locs hP hD hS => ?_)
            have hP : va_P (dC, dI) vwCl (wR cA h0 q1 q2 q3 q4 q5 q6 q7 rm fl us lg se we wh th nx md (2 : Int32)) H := hP
            have hD : va_D A (wR cA h0 q1 q2 q3 q4 q5 q6 q7 rm fl us lg se we wh th nx md (2 : Int32)) := hD
            refine lv_iload_n hx hb d_R_dataOf_98 rfl (lv_at hl 1 rfl) ?_
            refine lv_iconst (v := (1 : Int32)) hx hb d_R_dataOf_99 (by decide) ?_
            refine lv_iload_n hx hb d_R_dataOf_100 rfl (lv_at hl 3 rfl) ?_
            refine lv_ishl hx hb d_R_dataOf_101 ?_
            refine lv_ixor hx hb d_R_dataOf_102 ?_
            refine lv_iconst (v := (1 : Int32)) hx hb d_R_dataOf_103 (by decide) ?_
            refine lv_iload hx hb d_R_dataOf_104 (lv_at hl 4 rfl) ?_
            refine lv_ishl hx hb d_R_dataOf_106 ?_
            refine lv_ixor hx hb d_R_dataOf_107 ?_
            refine lv_bipush (v := (15 : Int32)) hx hb d_R_dataOf_108 (by decide) ?_
            refine lv_ishr hx hb d_R_dataOf_110 ?_
            cases hF
            exact W.iret hx hb hr (fun t ht hW => ⟨⟨_, (), rfl, rfl, by rw [ht]; exact hP, hD⟩, hS.F ht⟩) hS.2.2 d_R_dataOf_111
      · intro H locs ls wr v1 v2 v3 hP hD hS hl hF
        have hF : (if (31 : Int32) ≤ v3 then (some ((-1 : Int32), wr)) else (f_R_dataOf_H n rm wr 4 v1 v2 v3 (0 : Int32) 0 0)) = some (r, wr') := hF
        refine lv_iload_n hx hb d_R_dataOf_126 rfl (lv_at hl 3 rfl) ?_
        refine lv_bipush (v := (31 : Int32)) hx hb d_R_dataOf_127 (by decide) ?_
        refine lv_icmp_ge hx hb d_R_dataOf_129 (tgt := 223) (by decide) (fun h129 => ?_) (fun h129 => ?_)
        · have hF := tx_t h129 hF
          refine lv_iconst (v := (-1 : Int32)) hx hb d_R_dataOf_223 (by decide) ?_
          cases hF
          exact W.iret hx hb hr (fun t ht hW => ⟨⟨_, (), rfl, rfl, by rw [ht]; exact hP, hD⟩, hS.F ht⟩) hS.2.2 d_R_dataOf_224
        · have hF := tx_f h129 hF
          refine lv_iconst (v := (0 : Int32)) hx hb d_R_dataOf_132 (by decide) ?_
          refine lv_istore hx hb d_R_dataOf_133 hl (by decide) rfl (fun ls hl => ?_)
          have hl : lv_has ls 7 [(4, .int (0 : Int32)), (0, .ref h0), (1, .int v1), (2, .int v2), (3, .int v3)] := hl
          exact hrec4 _ _ _ wr v1 v2 v3 (0 : Int32) hP hD hS (lv_sub hl [1, 2, 3, 4, 0] rfl) hF
      · intro H locs ls wr v1 v2 v3 v4 hP hD hS hl hF
        have hF : (if v3 ≤ v4 then (f_R_dataOf_H n rm wr 3 v1 v2 (v3 + (1 : Int32)) 0 0 0) else (if v3 < 0 ∨ 31 ≤ v3.toNatClampNeg then none else if v4 < 0 ∨ 31 ≤ v4.toNatClampNeg then none else f_R_dataOf_H n rm wr 5 v1 v2 v3 v4 (((rm v3.toNatClampNeg) ^^^ (rm v4.toNatClampNeg)) ^^^ v2) (0 : Int32))) = some (r, wr') := hF
        refine lv_iload hx hb d_R_dataOf_135 (lv_at hl 4 rfl) ?_
        refine lv_iload_n hx hb d_R_dataOf_137 rfl (lv_at hl 3 rfl) ?_
        refine lv_icmp_ge hx hb d_R_dataOf_138 (tgt := 217) (by decide) (fun h138 => ?_) (fun h138 => ?_)
        · have hF := tx_t h138 hF
          refine lv_iinc (k := 3) (v := (v3 + (1 : Int32))) hx hb d_R_dataOf_217 hl rfl rfl (by decide) rfl (fun ls hl => ?_)
          have hl : lv_has ls 7 [(3, .int (v3 + (1 : Int32))), (0, .ref h0), (1, .int v1), (2, .int v2), (4, .int v4)] := hl
          refine lv_goto hx hb d_R_dataOf_220 (tgt := 126) (by decide) ?_
          exact hrec3 _ _ _ wr v1 v2 (v3 + (1 : Int32)) hP hD hS (lv_sub hl [1, 2, 3, 0] rfl) hF
        · have hF := tx_f h138 hF
          refine lv_aload_n hx hb d_R_dataOf_141 rfl (lv_at hl 0 rfl) ?_
          refine va_get (D := (dC, dI)) (ci := 2) (v := .ref q1) (C := "FlashStoreModel") (T := TR) (N := 11) hx hb hts inTR hown hK hP 0 rfl rfl 1 (by decide) w1 (fun _ h9 => h9) rfl d_R_dataOf_142 ?_
          refine lv_iload_n hx hb d_R_dataOf_145 rfl (lv_at hl 3 rfl) ?_
          obtain ⟨hi146, hF⟩ := tx_g hF
          refine va_iald hx hb hK hP 1 0 rfl rfl hi146 d_R_dataOf_146 ?_
          refine lv_aload_n hx hb d_R_dataOf_147 rfl (lv_at hl 0 rfl) ?_
          refine va_get (D := (dC, dI)) (ci := 2) (v := .ref q1) (C := "FlashStoreModel") (T := TR) (N := 11) hx hb hts inTR hown hK hP 0 rfl rfl 1 (by decide) w1 (fun _ h9 => h9) rfl d_R_dataOf_148 ?_
          refine lv_iload hx hb d_R_dataOf_151 (lv_at hl 4 rfl) ?_
          obtain ⟨hi153, hF⟩ := tx_g hF
          refine va_iald hx hb hK hP 1 0 rfl rfl hi153 d_R_dataOf_153 ?_
          refine lv_ixor hx hb d_R_dataOf_154 ?_
          refine lv_iload_n hx hb d_R_dataOf_155 rfl (lv_at hl 2 rfl) ?_
          refine lv_ixor hx hb d_R_dataOf_156 ?_
          refine lv_istore hx hb d_R_dataOf_157 hl (by decide) rfl (fun ls hl => ?_)
          have hl : lv_has ls 7 [(5, .int (((rm v3.toNatClampNeg) ^^^ (rm v4.toNatClampNeg)) ^^^ v2)), (0, .ref h0), (1, .int v1), (2, .int v2), (3, .int v3), (4, .int v4)] := hl
          refine lv_iconst (v := (0 : Int32)) hx hb d_R_dataOf_159 (by decide) ?_
          refine lv_istore hx hb d_R_dataOf_160 hl (by decide) rfl (fun ls hl => ?_)
          have hl : lv_has ls 7 [(6, .int (0 : Int32)), (5, .int (((rm v3.toNatClampNeg) ^^^ (rm v4.toNatClampNeg)) ^^^ v2)), (0, .ref h0), (1, .int v1), (2, .int v2), (3, .int v3), (4, .int v4)] := hl
          exact hrec5 _ _ _ wr v1 v2 v3 v4 (((rm v3.toNatClampNeg) ^^^ (rm v4.toNatClampNeg)) ^^^ v2) (0 : Int32) hP hD hS (lv_sub hl [2, 3, 4, 5, 6, 1, 0] rfl) hF
      · intro H locs ls wr v1 v2 v3 v4 v5 v6 hP hD hS hl hF
        have hF : (if v4 ≤ v6 then (f_R_dataOf_H n rm wr 4 v1 v2 v3 (v4 + (1 : Int32)) 0 0) else (if v6 < 0 ∨ 31 ≤ v6.toNatClampNeg then none else if (rm v6.toNatClampNeg) = v5 then (some (((((v1 ^^^ ((1 : Int32) <<< (v3 &&& 31))) ^^^ ((1 : Int32) <<< (v4 &&& 31))) ^^^ ((1 : Int32) <<< (v6 &&& 31))) >>> ((15 : Int32) &&& 31)), (3 : Int32))) else (f_R_dataOf_H n rm wr 5 v1 v2 v3 v4 v5 (v6 + (1 : Int32))))) = some (r, wr') := hF
        refine lv_iload hx hb d_R_dataOf_162 (lv_at hl 6 rfl) ?_
        refine lv_iload hx hb d_R_dataOf_164 (lv_at hl 4 rfl) ?_
        refine lv_icmp_ge hx hb d_R_dataOf_166 (tgt := 211) (by decide) (fun h166 => ?_) (fun h166 => ?_)
        · have hF := tx_t h166 hF
          refine lv_iinc (k := 4) (v := (v4 + (1 : Int32))) hx hb d_R_dataOf_211 hl rfl rfl (by decide) rfl (fun ls hl => ?_)
          have hl : lv_has ls 7 [(4, .int (v4 + (1 : Int32))), (0, .ref h0), (1, .int v1), (2, .int v2), (3, .int v3), (5, .int v5), (6, .int v6)] := hl
          refine lv_goto hx hb d_R_dataOf_214 (tgt := 135) (by decide) ?_
          exact hrec4 _ _ _ wr v1 v2 v3 (v4 + (1 : Int32)) hP hD hS (lv_sub hl [1, 2, 3, 4, 0] rfl) hF
        · have hF := tx_f h166 hF
          refine lv_aload_n hx hb d_R_dataOf_169 rfl (lv_at hl 0 rfl) ?_
          refine va_get (D := (dC, dI)) (ci := 2) (v := .ref q1) (C := "FlashStoreModel") (T := TR) (N := 11) hx hb hts inTR hown hK hP 0 rfl rfl 1 (by decide) w1 (fun _ h9 => h9) rfl d_R_dataOf_170 ?_
          refine lv_iload hx hb d_R_dataOf_173 (lv_at hl 6 rfl) ?_
          obtain ⟨hi175, hF⟩ := tx_g hF
          refine va_iald hx hb hK hP 1 0 rfl rfl hi175 d_R_dataOf_175 ?_
          refine lv_iload hx hb d_R_dataOf_176 (lv_at hl 5 rfl) ?_
          refine lv_icmp_ne hx hb d_R_dataOf_178 (tgt := 205) (by decide) (fun h178 => ?_) (fun h178 => ?_)
          · have hF := tx_f h178 hF
            refine lv_iinc (k := 6) (v := (v6 + (1 : Int32))) hx hb d_R_dataOf_205 hl rfl rfl (by decide) rfl (fun ls hl => ?_)
            have hl : lv_has ls 7 [(6, .int (v6 + (1 : Int32))), (0, .ref h0), (1, .int v1), (2, .int v2), (3, .int v3), (4, .int v4), (5, .int v5)] := hl
            refine lv_goto hx hb d_R_dataOf_208 (tgt := 162) (by decide) ?_
            exact hrec5 _ _ _ wr v1 v2 v3 v4 v5 (v6 + (1 : Int32)) hP hD hS (lv_sub hl [1, 2, 3, 4, 5, 6, 0] rfl) hF
          · have hF := tx_t h178 hF
            refine lv_aload_n hx hb d_R_dataOf_181 rfl (lv_at hl 0 rfl) ?_
            refine lv_iconst (v := (3 : Int32)) hx hb d_R_dataOf_182 (by decide) ?_
            refine va_put (D := (dC, dI)) (ci := 2) (v := .int (3 : Int32)) (ty := .int) (C := "FlashStoreModel") (T := TR) (N := 11) hx hb hts inTR tyTR tyTR_ok nmTR hown hK hP hD hS 0 rfl rfl 10 (by decide) w0 (fun _ h9 => h9) rfl (by decide +kernel) rfl rfl (Nat.le_of_ble_eq_true rfl) d_R_dataOf_183 (fun H locs hP hD hS => ?_)
            have hP : va_P (dC, dI) vwCl (wR cA h0 q1 q2 q3 q4 q5 q6 q7 rm fl us lg se we wh th nx md (3 : Int32)) H := hP
            have hD : va_D A (wR cA h0 q1 q2 q3 q4 q5 q6 q7 rm fl us lg se we wh th nx md (3 : Int32)) := hD
            refine lv_iload_n hx hb d_R_dataOf_186 rfl (lv_at hl 1 rfl) ?_
            refine lv_iconst (v := (1 : Int32)) hx hb d_R_dataOf_187 (by decide) ?_
            refine lv_iload_n hx hb d_R_dataOf_188 rfl (lv_at hl 3 rfl) ?_
            refine lv_ishl hx hb d_R_dataOf_189 ?_
            refine lv_ixor hx hb d_R_dataOf_190 ?_
            refine lv_iconst (v := (1 : Int32)) hx hb d_R_dataOf_191 (by decide) ?_
            refine lv_iload hx hb d_R_dataOf_192 (lv_at hl 4 rfl) ?_
            refine lv_ishl hx hb d_R_dataOf_194 ?_
            refine lv_ixor hx hb d_R_dataOf_195 ?_
            refine lv_iconst (v := (1 : Int32)) hx hb d_R_dataOf_196 (by decide) ?_
            refine lv_iload hx hb d_R_dataOf_197 (lv_at hl 6 rfl) ?_
            refine lv_ishl hx hb d_R_dataOf_199 ?_
            refine lv_ixor hx hb d_R_dataOf_200 ?_
            refine lv_bipush (v := (15 : Int32)) hx hb d_R_dataOf_201 (by decide) ?_
            refine lv_ishr hx hb d_R_dataOf_203 ?_
            cases hF
            exact W.iret hx hb hr (fun t ht hW => ⟨⟨_, (), rfl, rfl, by rw [ht]; exact hP, hD⟩, hS.F ht⟩) hS.2.2 d_R_dataOf_204
  obtain ⟨hrec0, hrec1, hrec2, hrec3, hrec4, hrec5⟩ := LH 40000
  have hF : ((f_R_left rm a1).bind fun r2 => if r2 = 0 then (some ((a1 >>> ((15 : Int32) &&& 31)), (0 : Int32))) else (f_R_dataOf_H 40000 rm (0 : Int32) 0 a1 r2 (0 : Int32) 0 0 0)) = some (r, wr') := hF
  refine lv_aload_n hx hb d_R_dataOf_0 rfl (lv_at hl 0 rfl) ?_
  refine lv_iload_n hx hb d_R_dataOf_1 rfl (lv_at hl 1 rfl) ?_
  obtain ⟨r2, hc2, hF⟩ := tx_b hF
  refine vp_callSi (W.runV (As := [.int a1]) (rest := []) ⟨hx, hb, hml, hown, hts⟩ (c_R_left l dC dI cA h0 q1 q2 q3 q4 q5 q6 q7 rm fl us lg se we wh th nx md wr a1 r2 hc2) (cwV 1 hts (tg_V bq_3_7 bq_3_9 bq_s_19 bq_1_4 bq_3_10) rfl rfl rfl (by decide +kernel) ⟨Nat.le_of_ble_eq_true rfl, Nat.le_of_ble_eq_true rfl⟩) ⟨tx_blR, (va_recv (ci := 2) (q0 := 0) hK hP rfl rfl), tx_preR (hP) hK⟩ rfl rfl hl.1 rfl (lv_room (Nat.le_of_ble_eq_true rfl)) d_R_dataOf_2 ⟨Nat.zero_le _, Nat.zero_le _⟩) (fun zz hz => ?_)
  subst hz
  refine lv_istore_n hx hb d_R_dataOf_5 rfl hl (by decide) rfl (fun ls hl => ?_)
  have hl : lv_has ls 7 [(2, .int r2), (0, .ref h0), (1, .int a1)] := hl
  refine lv_aload_n hx hb d_R_dataOf_6 rfl (lv_at hl 1 rfl) ?_
  refine lv_iconst (v := (0 : Int32)) hx hb d_R_dataOf_7 (by decide) ?_
  refine va_put (D := (dC, dI)) (ci := 2) (v := .int (0 : Int32)) (ty := .int) (C := "FlashStoreModel") (T := TR) (N := 11) hx hb hts inTR tyTR tyTR_ok nmTR hown hK hP hD hS 0 rfl rfl 10 (by decide) w0 (fun _ h9 => h9) rfl (by decide +kernel) rfl rfl (Nat.le_of_ble_eq_true rfl) d_R_dataOf_8 (fun H locs hP hD hS => ?_)
  have hP : va_P (dC, dI) vwCl (wR cA h0 q1 q2 q3 q4 q5 q6 q7 rm fl us lg se we wh th nx md (0 : Int32)) H := hP
  have hD : va_D A (wR cA h0 q1 q2 q3 q4 q5 q6 q7 rm fl us lg se we wh th nx md (0 : Int32)) := hD
  refine lv_iload_n hx hb d_R_dataOf_11 rfl (lv_at hl 0 rfl) ?_
  refine lv_if_ne hx hb d_R_dataOf_12 (tgt := 20) (by decide) (fun h12 => ?_) (fun h12 => ?_)
  · have hF := tx_f h12 hF
    refine lv_iconst (v := (0 : Int32)) hx hb d_R_dataOf_20 (by decide) ?_
    refine lv_istore_n hx hb d_R_dataOf_21 rfl hl (by decide) rfl (fun ls hl => ?_)
    have hl : lv_has ls 7 [(3, .int (0 : Int32)), (2, .int r2), (0, .ref h0), (1, .int a1)] := hl
    exact hrec0 _ _ _ (0 : Int32) a1 r2 (0 : Int32) hP hD hS (lv_sub hl [2, 3, 1, 0] rfl) hF
  · have hF := tx_t h12 hF
    refine lv_iload_n hx hb d_R_dataOf_15 rfl (lv_at hl 2 rfl) ?_
    refine lv_bipush (v := (15 : Int32)) hx hb d_R_dataOf_16 (by decide) ?_
    refine lv_ishr hx hb d_R_dataOf_18 ?_
    cases hF
    exact W.iret hx hb hr (fun t ht hW => ⟨⟨_, (), rfl, rfl, by rw [ht]; exact hP, hD⟩, hS.F ht⟩) hS.2.2 d_R_dataOf_19
abbrev rm_R_encode : Room := { frames := 2, cells := 0, slots := 0, locals := 44 }
set_option maxHeartbeats 4000000 in
set_option maxRecDepth 100000 in
theorem c_R_encode (l : Launch) (dC : Nat → ClassId) (dI : Nat → Nat → Nat) (cA : ClassId) (h0 q1 q2 q3 q4 q5 q6 q7 sz : Nat) (rm fl us lg se we wh : Nat → Int32) (th nx md wr : Int32) (a1 : Int32) (r : Int32) (th' : Int32) (hF : f_R_encode rm th a1 = some (r, th')) : Met l y_R_encode ws_R_encode rm_R_encode (tx_PW [.ref h0, .int a1] (dC, dI) [(cA, .int)] (wR cA h0 q1 q2 q3 q4 q5 q6 q7 rm fl us lg se we wh th nx md wr) sz) (va_Qi (S := Unit) (fun z _ => r = z) (fun _ t => va_P (dC, dI) vwCl (wR cA h0 q1 q2 q3 q4 q5 q6 q7 rm fl us lg se we wh (th') nx md wr) t.heap ∧ va_D (va_A (wR cA h0 q1 q2 q3 q4 q5 q6 q7 rm fl us lg se we wh th nx md wr) sz) (wR cA h0 q1 q2 q3 q4 q5 q6 q7 rm fl us lg se we wh (th') nx md wr)) (va_A (wR cA h0 q1 q2 q3 q4 q5 q6 q7 rm fl us lg se we wh th nx md wr) sz)) 0 0 (va_A (wR cA h0 q1 q2 q3 q4 q5 q6 q7 rm fl us lg se we wh th nx md wr) sz) := by
  refine Met.ofW (cc := b_R_encode) (maxL := 2) (ret := some .int) (by decide +kernel) rfl ?_
  intro p e s m args below meth c s₁ B hml hv
  obtain ⟨hargs, hsz, hP, hK, hD0, hNw⟩ := hv
  have hx := B.exec
  have hb := B.bytes
  have hr := B.returns
  have hts := atoms_spec (ws := ws_R_encode) B.pre
  have hown : s.vm.findClass "FlashStoreModel" = some m.cls := findClass_of_methodNamed B.named
  have hlocks := B.notSynchronized
  subst hsz
  have hD := hD0.self (sz := s.heap.size)
  generalize hAe : va_A (wR cA h0 q1 q2 q3 q4 q5 q6 q7 rm fl us lg se we wh th nx md wr) s.heap.size = A at hD ⊢
  have hA : ∀ q : Nat, s.heap.size ≤ q → A q := fun q h => by rw [← hAe]; exact Or.inr h
  have hS : va_S A s.heap s.heap [] := va_S.rf
  have hP : va_P (dC, dI) vwCl (wR cA h0 q1 q2 q3 q4 q5 q6 q7 rm fl us lg se we wh th nx md wr) s.heap := hP
  have w0 := (hts _ (List.mem_cons_of_mem _ bq_2_192))
  have w1 := hts (.constant "FlashStoreModel" 45 (65536 : Int32)) (by decide +kernel)
  have hl := lv_entry ([.ref h0, .int a1]) (n := 2) (Nat.le_of_ble_eq_true rfl)
  have hen : entryFrame m args 2 = _ := (congrArg (fun z => entryFrame m z 2) hargs).trans (lg_entry_eq m ([.ref h0, .int a1]) 2)
  refine W.eq hen ?_
  clear hen
  generalize (lg_sl ([.ref h0, .int a1]) ++ List.replicate (2 - (lg_sl ([.ref h0, .int a1])).length) Slot.unset).toArray = ls at hl ⊢
  have hl : lv_has ls 2 [(0, .ref h0), (1, .int a1)] := hl
  have J27 : ∀ (H : Heap) (locs : List Loc) (ls : Array Slot) (th : Int32) (z0 : Int32), va_P (dC, dI) vwCl (wR cA h0 q1 q2 q3 q4 q5 q6 q7 rm fl us lg se we wh th nx md wr) H → va_D A (wR cA h0 q1 q2 q3 q4 q5 q6 q7 rm fl us lg se we wh th nx md wr) → va_S A s.heap H locs → lv_has ls 2 [] → f_R_encode_J27 rm th z0 = some (r, th') → W p l e (headSpec ws_R_encode rm_R_encode).room s m args below meth c H locs 0 0 (MQ below (va_Qi (S := Unit) (fun z _ => r = z) (fun _ t => va_P (dC, dI) vwCl (wR cA h0 q1 q2 q3 q4 q5 q6 q7 rm fl us lg se we wh (th') nx md wr) t.heap ∧ va_D A (wR cA h0 q1 q2 q3 q4 q5 q6 q7 rm fl us lg se we wh (th') nx md wr)) A) args s 0 0 A) (F0 m 27 ls [.int z0]) := by
    intro H locs ls th z0 hP hD hS hl hF
    have hF : (some (z0, th)) = some (r, th') := hF
    cases hF
    exact W.iret hx hb hr (fun t ht hW => ⟨⟨_, (), rfl, rfl, by rw [ht]; exact hP, hD⟩, hS.F ht⟩) hS.2.2 d_R_encode_27
  have hF : ((f_R_out a1 (65536 : Int32)).bind fun r8 => if r8 = 0 then ((f_R_codeword rm a1).bind fun r24 => f_R_encode_J27 rm (0 : Int32) r24) else ((f_R_fail (0 : Int32) (1 : Int32)).bind fun (r16, th16) => f_R_encode_J27 rm th16 r16)) = some (r, th') := hF
  refine lv_aload_n hx hb d_R_encode_0 rfl (lv_at hl 0 rfl) ?_
  refine lv_iconst (v := (0 : Int32)) hx hb d_R_encode_1 (by decide) ?_
  refine va_put (D := (dC, dI)) (ci := 2) (v := .int (0 : Int32)) (ty := .int) (C := "FlashStoreModel") (T := TR) (N := 11) hx hb hts inTR tyTR tyTR_ok nmTR hown hK hP hD hS 0 rfl rfl 0 (by decide) w0 (fun _ h9 => h9) rfl (by decide +kernel) rfl rfl (Nat.le_of_ble_eq_true rfl) d_R_encode_2 (fun H locs hP hD hS => ?_)
  have hP : va_P (dC, dI) vwCl (wR cA h0 q1 q2 q3 q4 q5 q6 q7 rm fl us lg se we wh (0 : Int32) nx md wr) H := hP
  have hD : va_D A (wR cA h0 q1 q2 q3 q4 q5 q6 q7 rm fl us lg se we wh (0 : Int32) nx md wr) := hD
  refine lv_iload_n hx hb d_R_encode_5 rfl (lv_at hl 1 rfl) ?_
  refine lv_ldc hx hb hown w1 d_R_encode_6 ?_
  obtain ⟨r8, hc8, hF⟩ := tx_b hF
  refine vp_callSi (W.runS (As := [.int a1, .int (65536 : Int32)]) (rest := []) ⟨hx, hb, hml, hown, hts⟩ (c_R_out l a1 (65536 : Int32) r8 hc8) (va_cwS 2 hts (tg_S bq_2_235 bq_2_236 bq_1_4 bq_2_237) rfl rfl rfl (by decide +kernel) ⟨Nat.le_of_ble_eq_true rfl, Nat.le_of_ble_eq_true rfl⟩) ⟨tx_bl0, tx_pre0⟩ rfl rfl hl.1 rfl (lv_room (Nat.le_of_ble_eq_true rfl)) d_R_encode_8 ⟨Nat.zero_le _, Nat.zero_le _⟩) (fun zz hz => ?_)
  subst hz
  refine lv_if_eq hx hb d_R_encode_11 (tgt := 22) (by decide) (fun h11 => ?_) (fun h11 => ?_)
  · have hF := tx_t h11 hF
    refine lv_aload_n hx hb d_R_encode_22 rfl (lv_at hl 0 rfl) ?_
    refine lv_iload_n hx hb d_R_encode_23 rfl (lv_at hl 1 rfl) ?_
    obtain ⟨r24, hc24, hF⟩ := tx_b hF
    refine vp_callSi (W.runV (As := [.int a1]) (rest := []) ⟨hx, hb, hml, hown, hts⟩ (c_R_codeword l dC dI cA h0 q1 q2 q3 q4 q5 q6 q7 rm fl us lg se we wh (0 : Int32) nx md wr a1 r24 hc24) (cwV 1 hts (tg_V bq_3_2 bq_3_4 bq_s_18 bq_1_4 bq_3_5) rfl rfl rfl (by decide +kernel) ⟨Nat.le_of_ble_eq_true rfl, Nat.le_of_ble_eq_true rfl⟩) ⟨tx_blR, (va_recv (ci := 2) (q0 := 0) hK hP rfl rfl), tx_preR (hP) hK⟩ rfl rfl hl.1 rfl (lv_room (Nat.le_of_ble_eq_true rfl)) d_R_encode_24 ⟨Nat.zero_le _, Nat.zero_le _⟩) (fun zz hz => ?_)
    subst hz
    exact J27 _ _ _ (0 : Int32) r24 hP hD hS (lv_sub hl [] rfl) hF
  · have hF := tx_f h11 hF
    refine lv_aload_n hx hb d_R_encode_14 rfl (lv_at hl 0 rfl) ?_
    refine lv_iconst (v := (1 : Int32)) hx hb d_R_encode_15 (by decide) ?_
    obtain ⟨⟨r16, th16⟩, hc16, hF⟩ := tx_b hF
    try dsimp only at hF
    have hPc := hP.sub (ws' := (wR cA h0 q1 q2 q3 q4 q5 q6 q7 rm fl us lg se we wh (0 : Int32) nx md wr)) [0, 1, 2, 3, 4, 5, 6, 7] rfl
    have hDc := hD.sub (ws' := (wR cA h0 q1 q2 q3 q4 q5 q6 q7 rm fl us lg se we wh (0 : Int32) nx md wr)) [0, 1, 2, 3, 4, 5, 6, 7] (by decide) rfl
    have hFc := va_free (wc := (wR cA h0 q1 q2 q3 q4 q5 q6 q7 rm fl us lg se we wh (0 : Int32) nx md wr)) hD hS hA [0, 1, 2, 3, 4, 5, 6, 7] rfl
    refine va_calli (va_runV (As := [.int (1 : Int32)]) (rest := []) ⟨hx, hb, hml, hown, hts⟩ (c_R_fail l dC dI cA h0 q1 q2 q3 q4 q5 q6 q7 H.size rm fl us lg se we wh (0 : Int32) nx md wr (1 : Int32) r16 th16 hc16) (cwV 1 hts (tg_V bq_2_238 bq_3_0 bq_s_17 bq_1_4 bq_3_1) rfl rfl rfl (by decide +kernel) ⟨Nat.le_of_ble_eq_true rfl, Nat.le_of_ble_eq_true rfl⟩) ⟨tx_blW, (va_recv (ci := 2) (q0 := 0) hK hP rfl rfl), tx_preW hPc hDc hK hNw⟩ rfl rfl hl.1 rfl (lv_room (Nat.le_of_ble_eq_true rfl)) d_R_encode_16 ⟨Nat.zero_le _, Nat.zero_le _⟩) hS (fun q _ h => hFc q h) hFc (fun zz _u t H locs ht hvm hw hB hz1 hk1 hS => ?_)
    subst hw
    obtain ⟨hP1, hD1⟩ := hB
    rw [ht] at hP1
    obtain ⟨hP2, hD2⟩ := va_join (wr := []) (w1 := (wR cA h0 q1 q2 q3 q4 q5 q6 q7 rm fl us lg se we wh th16 nx md wr)) hP hD [0, 1, 2, 3, 4, 5, 6, 7] [] rfl rfl (by decide) (by decide) hk1 hFc hP1 hD1
    have hP := hP2.sub (ws' := (wR cA h0 q1 q2 q3 q4 q5 q6 q7 rm fl us lg se we wh th16 nx md wr)) [0, 1, 2, 3, 4, 5, 6, 7] rfl
    have hD := hD2.sub (ws' := (wR cA h0 q1 q2 q3 q4 q5 q6 q7 rm fl us lg se we wh th16 nx md wr)) [0, 1, 2, 3, 4, 5, 6, 7] (by decide) rfl
    refine lv_goto hx hb d_R_encode_19 (tgt := 27) (by decide) ?_
    exact J27 _ _ _ th16 r16 hP hD hS (lv_sub hl [] rfl) hF
abbrev rm_R_decode : Room := { frames := 2, cells := 0, slots := 0, locals := 49 }
set_option maxHeartbeats 4000000 in
set_option maxRecDepth 100000 in
theorem c_R_decode (l : Launch) (dC : Nat → ClassId) (dI : Nat → Nat → Nat) (cA : ClassId) (h0 q1 q2 q3 q4 q5 q6 q7 sz : Nat) (rm fl us lg se we wh : Nat → Int32) (th nx md wr : Int32) (a1 : Int32) (r : Int32) (th' : Int32) (md' : Int32) (wr' : Int32) (hF : f_R_decode rm th md wr a1 = some (r, th', md', wr')) : Met l y_R_decode ws_R_decode rm_R_decode (tx_PW [.ref h0, .int a1] (dC, dI) [(cA, .int)] (wR cA h0 q1 q2 q3 q4 q5 q6 q7 rm fl us lg se we wh th nx md wr) sz) (va_Qi (S := Unit) (fun z _ => r = z) (fun _ t => va_P (dC, dI) vwCl (wR cA h0 q1 q2 q3 q4 q5 q6 q7 rm fl us lg se we wh (th') nx (md') (wr')) t.heap ∧ va_D (va_A (wR cA h0 q1 q2 q3 q4 q5 q6 q7 rm fl us lg se we wh th nx md wr) sz) (wR cA h0 q1 q2 q3 q4 q5 q6 q7 rm fl us lg se we wh (th') nx (md') (wr'))) (va_A (wR cA h0 q1 q2 q3 q4 q5 q6 q7 rm fl us lg se we wh th nx md wr) sz)) 0 0 (va_A (wR cA h0 q1 q2 q3 q4 q5 q6 q7 rm fl us lg se we wh th nx md wr) sz) := by
  refine Met.ofW (cc := b_R_decode) (maxL := 3) (ret := some .int) (by decide +kernel) rfl ?_
  intro p e s m args below meth c s₁ B hml hv
  obtain ⟨hargs, hsz, hP, hK, hD0, hNw⟩ := hv
  have hx := B.exec
  have hb := B.bytes
  have hr := B.returns
  have hts := atoms_spec (ws := ws_R_decode) B.pre
  have hown : s.vm.findClass "FlashStoreModel" = some m.cls := findClass_of_methodNamed B.named
  have hlocks := B.notSynchronized
  subst hsz
  have hD := hD0.self (sz := s.heap.size)
  generalize hAe : va_A (wR cA h0 q1 q2 q3 q4 q5 q6 q7 rm fl us lg se we wh th nx md wr) s.heap.size = A at hD ⊢
  have hA : ∀ q : Nat, s.heap.size ≤ q → A q := fun q h => by rw [← hAe]; exact Or.inr h
  have hS : va_S A s.heap s.heap [] := va_S.rf
  have hP : va_P (dC, dI) vwCl (wR cA h0 q1 q2 q3 q4 q5 q6 q7 rm fl us lg se we wh th nx md wr) s.heap := hP
  have w0 := (hts _ (List.mem_cons_of_mem _ bq_2_192))
  have w1 := (hts _ (List.mem_cons_of_mem _ bq_2_202))
  have w2 := (hts _ (List.mem_cons_of_mem _ bq_2_201))
  have hl := lv_entry ([.ref h0, .int a1]) (n := 3) (Nat.le_of_ble_eq_true rfl)
  have hen : entryFrame m args 3 = _ := (congrArg (fun z => entryFrame m z 3) hargs).trans (lg_entry_eq m ([.ref h0, .int a1]) 3)
  refine W.eq hen ?_
  clear hen
  generalize (lg_sl ([.ref h0, .int a1]) ++ List.replicate (3 - (lg_sl ([.ref h0, .int a1])).length) Slot.unset).toArray = ls at hl ⊢
  have hl : lv_has ls 3 [(0, .ref h0), (1, .int a1)] := hl
  have hF : (if 0 ≤ a1 then ((f_R_dataOf rm wr a1).bind fun (r17, wr17) => if 0 ≤ r17 then (some (r17, (0 : Int32), wr17, wr17)) else ((f_R_fail (0 : Int32) (2 : Int32)).bind fun (r27, th27) => some (r27, th27, md, wr17))) else ((f_R_fail (0 : Int32) (1 : Int32)).bind fun (r11, th11) => some (r11, th11, md, wr))) = some (r, th', md', wr') := hF
  refine lv_aload_n hx hb d_R_decode_0 rfl (lv_at hl 0 rfl) ?_
  refine lv_iconst (v := (0 : Int32)) hx hb d_R_decode_1 (by decide) ?_
  refine va_put (D := (dC, dI)) (ci := 2) (v := .int (0 : Int32)) (ty := .int) (C := "FlashStoreModel") (T := TR) (N := 11) hx hb hts inTR tyTR tyTR_ok nmTR hown hK hP hD hS 0 rfl rfl 0 (by decide) w0 (fun _ h9 => h9) rfl (by decide +kernel) rfl rfl (Nat.le_of_ble_eq_true rfl) d_R_decode_2 (fun H locs hP hD hS => ?_)
  have hP : va_P (dC, dI) vwCl (wR cA h0 q1 q2 q3 q4 q5 q6 q7 rm fl us lg se we wh (0 : Int32) nx md wr) H := hP
  have hD : va_D A (wR cA h0 q1 q2 q3 q4 q5 q6 q7 rm fl us lg se we wh (0 : Int32) nx md wr) := hD
  refine lv_iload_n hx hb d_R_decode_5 rfl (lv_at hl 1 rfl) ?_
  refine lv_if_ge hx hb d_R_decode_6 (tgt := 15) (by decide) (fun h6 => ?_) (fun h6 => ?_)
  · have hF := tx_t h6 hF
    refine lv_aload_n hx hb d_R_decode_15 rfl (lv_at hl 0 rfl) ?_
    refine lv_iload_n hx hb d_R_decode_16 rfl (lv_at hl 1 rfl) ?_
    obtain ⟨⟨r17, wr17⟩, hc17, hF⟩ := tx_b hF
    try dsimp only at hF
    have hPc := hP.sub (ws' := (wR cA h0 q1 q2 q3 q4 q5 q6 q7 rm fl us lg se we wh (0 : Int32) nx md wr)) [0, 1, 2, 3, 4, 5, 6, 7] rfl
    have hDc := hD.sub (ws' := (wR cA h0 q1 q2 q3 q4 q5 q6 q7 rm fl us lg se we wh (0 : Int32) nx md wr)) [0, 1, 2, 3, 4, 5, 6, 7] (by decide) rfl
    have hFc := va_free (wc := (wR cA h0 q1 q2 q3 q4 q5 q6 q7 rm fl us lg se we wh (0 : Int32) nx md wr)) hD hS hA [0, 1, 2, 3, 4, 5, 6, 7] rfl
    refine va_calli (va_runV (As := [.int a1]) (rest := []) ⟨hx, hb, hml, hown, hts⟩ (c_R_dataOf l dC dI cA h0 q1 q2 q3 q4 q5 q6 q7 H.size rm fl us lg se we wh (0 : Int32) nx md wr a1 r17 wr17 hc17) (cwV 1 hts (tg_V bq_3_15 bq_3_17 bq_s_20 bq_1_4 bq_3_18) rfl rfl rfl (by decide +kernel) ⟨Nat.le_of_ble_eq_true rfl, Nat.le_of_ble_eq_true rfl⟩) ⟨tx_blW, (va_recv (ci := 2) (q0 := 0) hK hP rfl rfl), tx_preW hPc hDc hK hNw⟩ rfl rfl hl.1 rfl (lv_room (Nat.le_of_ble_eq_true rfl)) d_R_decode_17 ⟨Nat.zero_le _, Nat.zero_le _⟩) hS (fun q _ h => hFc q h) hFc (fun zz _u t H locs ht hvm hw hB hz1 hk1 hS => ?_)
    subst hw
    obtain ⟨hP1, hD1⟩ := hB
    rw [ht] at hP1
    obtain ⟨hP2, hD2⟩ := va_join (wr := []) (w1 := (wR cA h0 q1 q2 q3 q4 q5 q6 q7 rm fl us lg se we wh (0 : Int32) nx md wr17)) hP hD [0, 1, 2, 3, 4, 5, 6, 7] [] rfl rfl (by decide) (by decide) hk1 hFc hP1 hD1
    have hP := hP2.sub (ws' := (wR cA h0 q1 q2 q3 q4 q5 q6 q7 rm fl us lg se we wh (0 : Int32) nx md wr17)) [0, 1, 2, 3, 4, 5, 6, 7] rfl
    have hD := hD2.sub (ws' := (wR cA h0 q1 q2 q3 q4 q5 q6 q7 rm fl us lg se we wh (0 : Int32) nx md wr17)) [0, 1, 2, 3, 4, 5, 6, 7] (by decide) rfl
    refine lv_istore_n hx hb d_R_decode_20 rfl hl (by decide) rfl (fun ls hl => ?_)
    have hl : lv_has ls 3 [(2, .int r17), (0, .ref h0), (1, .int a1)] := hl
    refine lv_iload_n hx hb d_R_decode_21 rfl (lv_at hl 0 rfl) ?_
    refine lv_if_ge hx hb d_R_decode_22 (tgt := 31) (by decide) (fun h22 => ?_) (fun h22 => ?_)
    · have hF := tx_t h22 hF
      refine lv_aload_n hx hb d_R_decode_31 rfl (lv_at hl 1 rfl) ?_
      refine lv_aload_n hx hb d_R_decode_32 rfl (lv_at hl 1 rfl) ?_
      refine va_get (D := (dC, dI)) (ci := 2) (v := .int wr17) (C := "FlashStoreModel") (T := TR) (N := 11) hx hb hts inTR hown hK hP 0 rfl rfl 10 (by decide) w1 (fun _ h9 => h9) rfl d_R_decode_33 ?_
      refine va_put (D := (dC, dI)) (ci := 2) (v := .int wr17) (ty := .int) (C := "FlashStoreModel") (T := TR) (N := 11) hx hb hts inTR tyTR tyTR_ok nmTR hown hK hP hD hS 0 rfl rfl 9 (by decide) w2 (fun _ h9 => h9) rfl (by decide +kernel) rfl rfl (Nat.le_of_ble_eq_true rfl) d_R_decode_36 (fun H locs hP hD hS => ?_)
      have hP : va_P (dC, dI) vwCl (wR cA h0 q1 q2 q3 q4 q5 q6 q7 rm fl us lg se we wh (0 : Int32) nx wr17 wr17) H := hP
      have hD : va_D A (wR cA h0 q1 q2 q3 q4 q5 q6 q7 rm fl us lg se we wh (0 : Int32) nx wr17 wr17) := hD
      refine lv_iload_n hx hb d_R_decode_39 rfl (lv_at hl 0 rfl) ?_
      cases hF
      exact W.iret hx hb hr (fun t ht hW => ⟨⟨_, (), rfl, rfl, by rw [ht]; exact hP, hD⟩, hS.F ht⟩) hS.2.2 d_R_decode_40
    · have hF := tx_f h22 hF
      refine lv_aload_n hx hb d_R_decode_25 rfl (lv_at hl 1 rfl) ?_
      refine lv_iconst (v := (2 : Int32)) hx hb d_R_decode_26 (by decide) ?_
      obtain ⟨⟨r27, th27⟩, hc27, hF⟩ := tx_b hF
      try dsimp only at hF
      have hPc := hP.sub (ws' := (wR cA h0 q1 q2 q3 q4 q5 q6 q7 rm fl us lg se we wh (0 : Int32) nx md wr17)) [0, 1, 2, 3, 4, 5, 6, 7] rfl
      have hDc := hD.sub (ws' := (wR cA h0 q1 q2 q3 q4 q5 q6 q7 rm fl us lg se we wh (0 : Int32) nx md wr17)) [0, 1, 2, 3, 4, 5, 6, 7] (by decide) rfl
      have hFc := va_free (wc := (wR cA h0 q1 q2 q3 q4 q5 q6 q7 rm fl us lg se we wh (0 : Int32) nx md wr17)) hD hS hA [0, 1, 2, 3, 4, 5, 6, 7] rfl
      refine va_calli (va_runV (As := [.int (2 : Int32)]) (rest := []) ⟨hx, hb, hml, hown, hts⟩ (c_R_fail l dC dI cA h0 q1 q2 q3 q4 q5 q6 q7 H.size rm fl us lg se we wh (0 : Int32) nx md wr17 (2 : Int32) r27 th27 hc27) (cwV 1 hts (tg_V bq_2_238 bq_3_0 bq_s_17 bq_1_4 bq_3_1) rfl rfl rfl (by decide +kernel) ⟨Nat.le_of_ble_eq_true rfl, Nat.le_of_ble_eq_true rfl⟩) ⟨tx_blW, (va_recv (ci := 2) (q0 := 0) hK hP rfl rfl), tx_preW hPc hDc hK hNw⟩ rfl rfl hl.1 rfl (lv_room (Nat.le_of_ble_eq_true rfl)) d_R_decode_27 ⟨Nat.zero_le _, Nat.zero_le _⟩) hS (fun q _ h => hFc q h) hFc (fun zz _u t H locs ht hvm hw hB hz1 hk1 hS => ?_)
      subst hw
      obtain ⟨hP1, hD1⟩ := hB
      rw [ht] at hP1
      obtain ⟨hP2, hD2⟩ := va_join (wr := []) (w1 := (wR cA h0 q1 q2 q3 q4 q5 q6 q7 rm fl us lg se we wh th27 nx md wr17)) hP hD [0, 1, 2, 3, 4, 5, 6, 7] [] rfl rfl (by decide) (by decide) hk1 hFc hP1 hD1
      have hP := hP2.sub (ws' := (wR cA h0 q1 q2 q3 q4 q5 q6 q7 rm fl us lg se we wh th27 nx md wr17)) [0, 1, 2, 3, 4, 5, 6, 7] rfl
      have hD := hD2.sub (ws' := (wR cA h0 q1 q2 q3 q4 q5 q6 q7 rm fl us lg se we wh th27 nx md wr17)) [0, 1, 2, 3, 4, 5, 6, 7] (by decide) rfl
      cases hF
      exact W.iret hx hb hr (fun t ht hW => ⟨⟨_, (), rfl, rfl, by rw [ht]; exact hP, hD⟩, hS.F ht⟩) hS.2.2 d_R_decode_30
  · have hF := tx_f h6 hF
    refine lv_aload_n hx hb d_R_decode_9 rfl (lv_at hl 0 rfl) ?_
    refine lv_iconst (v := (1 : Int32)) hx hb d_R_decode_10 (by decide) ?_
    obtain ⟨⟨r11, th11⟩, hc11, hF⟩ := tx_b hF
    try dsimp only at hF
    have hPc := hP.sub (ws' := (wR cA h0 q1 q2 q3 q4 q5 q6 q7 rm fl us lg se we wh (0 : Int32) nx md wr)) [0, 1, 2, 3, 4, 5, 6, 7] rfl
    have hDc := hD.sub (ws' := (wR cA h0 q1 q2 q3 q4 q5 q6 q7 rm fl us lg se we wh (0 : Int32) nx md wr)) [0, 1, 2, 3, 4, 5, 6, 7] (by decide) rfl
    have hFc := va_free (wc := (wR cA h0 q1 q2 q3 q4 q5 q6 q7 rm fl us lg se we wh (0 : Int32) nx md wr)) hD hS hA [0, 1, 2, 3, 4, 5, 6, 7] rfl
    refine va_calli (va_runV (As := [.int (1 : Int32)]) (rest := []) ⟨hx, hb, hml, hown, hts⟩ (c_R_fail l dC dI cA h0 q1 q2 q3 q4 q5 q6 q7 H.size rm fl us lg se we wh (0 : Int32) nx md wr (1 : Int32) r11 th11 hc11) (cwV 1 hts (tg_V bq_2_238 bq_3_0 bq_s_17 bq_1_4 bq_3_1) rfl rfl rfl (by decide +kernel) ⟨Nat.le_of_ble_eq_true rfl, Nat.le_of_ble_eq_true rfl⟩) ⟨tx_blW, (va_recv (ci := 2) (q0 := 0) hK hP rfl rfl), tx_preW hPc hDc hK hNw⟩ rfl rfl hl.1 rfl (lv_room (Nat.le_of_ble_eq_true rfl)) d_R_decode_11 ⟨Nat.zero_le _, Nat.zero_le _⟩) hS (fun q _ h => hFc q h) hFc (fun zz _u t H locs ht hvm hw hB hz1 hk1 hS => ?_)
    subst hw
    obtain ⟨hP1, hD1⟩ := hB
    rw [ht] at hP1
    obtain ⟨hP2, hD2⟩ := va_join (wr := []) (w1 := (wR cA h0 q1 q2 q3 q4 q5 q6 q7 rm fl us lg se we wh th11 nx md wr)) hP hD [0, 1, 2, 3, 4, 5, 6, 7] [] rfl rfl (by decide) (by decide) hk1 hFc hP1 hD1
    have hP := hP2.sub (ws' := (wR cA h0 q1 q2 q3 q4 q5 q6 q7 rm fl us lg se we wh th11 nx md wr)) [0, 1, 2, 3, 4, 5, 6, 7] rfl
    have hD := hD2.sub (ws' := (wR cA h0 q1 q2 q3 q4 q5 q6 q7 rm fl us lg se we wh th11 nx md wr)) [0, 1, 2, 3, 4, 5, 6, 7] (by decide) rfl
    cases hF
    exact W.iret hx hb hr (fun t ht hW => ⟨⟨_, (), rfl, rfl, by rw [ht]; exact hP, hD⟩, hS.F ht⟩) hS.2.2 d_R_decode_14
abbrev rm_R_mended : Room := { frames := 0, cells := 0, slots := 0, locals := 0 }
set_option maxHeartbeats 4000000 in
set_option maxRecDepth 100000 in
theorem c_R_mended (l : Launch) (dC : Nat → ClassId) (dI : Nat → Nat → Nat) (cA : ClassId) (h0 q1 q2 q3 q4 q5 q6 q7 sz : Nat) (rm fl us lg se we wh : Nat → Int32) (th nx md wr : Int32)  (r : Int32) (th' : Int32) (hF : f_R_mended th md = some (r, th')) : Met l y_R_mended ws_R_mended rm_R_mended (tx_PW [.ref h0] (dC, dI) [(cA, .int)] (wR cA h0 q1 q2 q3 q4 q5 q6 q7 rm fl us lg se we wh th nx md wr) sz) (va_Qi (S := Unit) (fun z _ => r = z) (fun _ t => va_P (dC, dI) vwCl (wR cA h0 q1 q2 q3 q4 q5 q6 q7 rm fl us lg se we wh (th') nx md wr) t.heap ∧ va_D (va_A (wR cA h0 q1 q2 q3 q4 q5 q6 q7 rm fl us lg se we wh th nx md wr) sz) (wR cA h0 q1 q2 q3 q4 q5 q6 q7 rm fl us lg se we wh (th') nx md wr)) (va_A (wR cA h0 q1 q2 q3 q4 q5 q6 q7 rm fl us lg se we wh th nx md wr) sz)) 0 0 (va_A (wR cA h0 q1 q2 q3 q4 q5 q6 q7 rm fl us lg se we wh th nx md wr) sz) := by
  refine Met.ofW (cc := b_R_mended) (maxL := 1) (ret := some .int) (by decide +kernel) rfl ?_
  intro p e s m args below meth c s₁ B hml hv
  obtain ⟨hargs, hsz, hP, hK, hD0, hNw⟩ := hv
  have hx := B.exec
  have hb := B.bytes
  have hr := B.returns
  have hts := atoms_spec (ws := ws_R_mended) B.pre
  have hown : s.vm.findClass "FlashStoreModel" = some m.cls := findClass_of_methodNamed B.named
  have hlocks := B.notSynchronized
  subst hsz
  have hD := hD0.self (sz := s.heap.size)
  generalize hAe : va_A (wR cA h0 q1 q2 q3 q4 q5 q6 q7 rm fl us lg se we wh th nx md wr) s.heap.size = A at hD ⊢
  have hA : ∀ q : Nat, s.heap.size ≤ q → A q := fun q h => by rw [← hAe]; exact Or.inr h
  have hS : va_S A s.heap s.heap [] := va_S.rf
  have hP : va_P (dC, dI) vwCl (wR cA h0 q1 q2 q3 q4 q5 q6 q7 rm fl us lg se we wh th nx md wr) s.heap := hP
  have w0 := (hts _ (List.mem_cons_of_mem _ bq_2_192))
  have w1 := (hts _ (List.mem_cons_of_mem _ bq_2_201))
  have hl := lv_entry ([.ref h0]) (n := 1) (Nat.le_of_ble_eq_true rfl)
  have hen : entryFrame m args 1 = _ := (congrArg (fun z => entryFrame m z 1) hargs).trans (lg_entry_eq m ([.ref h0]) 1)
  refine W.eq hen ?_
  clear hen
  generalize (lg_sl ([.ref h0]) ++ List.replicate (1 - (lg_sl ([.ref h0])).length) Slot.unset).toArray = ls at hl ⊢
  have hl : lv_has ls 1 [(0, .ref h0)] := hl
  have hF : (some (md, (0 : Int32))) = some (r, th') := hF
  refine lv_aload_n hx hb d_R_mended_0 rfl (lv_at hl 0 rfl) ?_
  refine lv_iconst (v := (0 : Int32)) hx hb d_R_mended_1 (by decide) ?_
  refine va_put (D := (dC, dI)) (ci := 2) (v := .int (0 : Int32)) (ty := .int) (C := "FlashStoreModel") (T := TR) (N := 11) hx hb hts inTR tyTR tyTR_ok nmTR hown hK hP hD hS 0 rfl rfl 0 (by decide) w0 (fun _ h9 => h9) rfl (by decide +kernel) rfl rfl (Nat.le_of_ble_eq_true rfl) d_R_mended_2 (fun H locs hP hD hS => ?_)
  have hP : va_P (dC, dI) vwCl (wR cA h0 q1 q2 q3 q4 q5 q6 q7 rm fl us lg se we wh (0 : Int32) nx md wr) H := hP
  have hD : va_D A (wR cA h0 q1 q2 q3 q4 q5 q6 q7 rm fl us lg se we wh (0 : Int32) nx md wr) := hD
  refine lv_aload_n hx hb d_R_mended_5 rfl (lv_at hl 0 rfl) ?_
  refine va_get (D := (dC, dI)) (ci := 2) (v := .int md) (C := "FlashStoreModel") (T := TR) (N := 11) hx hb hts inTR hown hK hP 0 rfl rfl 9 (by decide) w1 (fun _ h9 => h9) rfl d_R_mended_6 ?_
  cases hF
  exact W.iret hx hb hr (fun t ht hW => ⟨⟨_, (), rfl, rfl, by rw [ht]; exact hP, hD⟩, hS.F ht⟩) hS.2.2 d_R_mended_9
abbrev rm_R_readable : Room := { frames := 2, cells := 0, slots := 0, locals := 49 }
set_option maxHeartbeats 4000000 in
set_option maxRecDepth 100000 in
theorem c_R_readable (l : Launch) (dC : Nat → ClassId) (dI : Nat → Nat → Nat) (cA : ClassId) (h0 q1 q2 q3 q4 q5 q6 q7 sz : Nat) (rm fl us lg se we wh : Nat → Int32) (th nx md wr : Int32) (a1 : Int32) (r : Int32) (wr' : Int32) (hF : f_R_readable rm fl wr a1 = some (r, wr')) : Met l y_R_readable ws_R_readable rm_R_readable (tx_PW [.ref h0, .int a1] (dC, dI) [(cA, .int)] (wR cA h0 q1 q2 q3 q4 q5 q6 q7 rm fl us lg se we wh th nx md wr) sz) (va_Qi (S := Unit) (fun z _ => r = z) (fun _ t => va_P (dC, dI) vwCl (wR cA h0 q1 q2 q3 q4 q5 q6 q7 rm fl us lg se we wh th nx md (wr')) t.heap ∧ va_D (va_A (wR cA h0 q1 q2 q3 q4 q5 q6 q7 rm fl us lg se we wh th nx md wr) sz) (wR cA h0 q1 q2 q3 q4 q5 q6 q7 rm fl us lg se we wh th nx md (wr'))) (va_A (wR cA h0 q1 q2 q3 q4 q5 q6 q7 rm fl us lg se we wh th nx md wr) sz)) 0 0 (va_A (wR cA h0 q1 q2 q3 q4 q5 q6 q7 rm fl us lg se we wh th nx md wr) sz) := by
  refine Met.ofW (cc := b_R_readable) (maxL := 4) (ret := some .boolean) (by decide +kernel) rfl ?_
  intro p e s m args below meth c s₁ B hml hv
  obtain ⟨hargs, hsz, hP, hK, hD0, hNw⟩ := hv
  have hx := B.exec
  have hb := B.bytes
  have hr := B.returns
  have hts := atoms_spec (ws := ws_R_readable) B.pre
  have hown : s.vm.findClass "FlashStoreModel" = some m.cls := findClass_of_methodNamed B.named
  have hlocks := B.notSynchronized
  subst hsz
  have hD := hD0.self (sz := s.heap.size)
  generalize hAe : va_A (wR cA h0 q1 q2 q3 q4 q5 q6 q7 rm fl us lg se we wh th nx md wr) s.heap.size = A at hD ⊢
  have hA : ∀ q : Nat, s.heap.size ≤ q → A q := fun q h => by rw [← hAe]; exact Or.inr h
  have hS : va_S A s.heap s.heap [] := va_S.rf
  have hP : va_P (dC, dI) vwCl (wR cA h0 q1 q2 q3 q4 q5 q6 q7 rm fl us lg se we wh th nx md wr) s.heap := hP
  have w0 := (hts _ (List.mem_cons_of_mem _ bq_2_194))
  have hl := lv_entry ([.ref h0, .int a1]) (n := 4) (Nat.le_of_ble_eq_true rfl)
  have hen : entryFrame m args 4 = _ := (congrArg (fun z => entryFrame m z 4) hargs).trans (lg_entry_eq m ([.ref h0, .int a1]) 4)
  refine W.eq hen ?_
  clear hen
  generalize (lg_sl ([.ref h0, .int a1]) ++ List.replicate (4 - (lg_sl ([.ref h0, .int a1])).length) Slot.unset).toArray = ls at hl ⊢
  have hl : lv_has ls 4 [(0, .ref h0), (1, .int a1)] := hl
  have J35 : ∀ (rc : (Nat → Int32) → (Nat → Int32) → Int32 → Int32 → Int32 → Int32 → Option (Int32 × Int32)) (hrec0 : ∀ (H : Heap) (locs : List Loc) (ls : Array Slot) (wr : Int32) (v1 : Int32) (v2 : Int32) (v3 : Int32), va_P (dC, dI) vwCl (wR cA h0 q1 q2 q3 q4 q5 q6 q7 rm fl us lg se we wh th nx md wr) H → va_D A (wR cA h0 q1 q2 q3 q4 q5 q6 q7 rm fl us lg se we wh th nx md wr) → va_S A s.heap H locs → lv_has ls 4 [(0, .ref h0), (1, .int v1), (2, .int v2), (3, .int v3)] → rc rm fl wr v1 v2 v3 = some (r, wr') → W p l e (headSpec ws_R_readable rm_R_readable).room s m args below meth c H locs 0 0 (MQ below (va_Qi (S := Unit) (fun z _ => r = z) (fun _ t => va_P (dC, dI) vwCl (wR cA h0 q1 q2 q3 q4 q5 q6 q7 rm fl us lg se we wh th nx md (wr')) t.heap ∧ va_D A (wR cA h0 q1 q2 q3 q4 q5 q6 q7 rm fl us lg se we wh th nx md (wr'))) A) args s 0 0 A) (F0 m 4 ls [])), ∀ (H : Heap) (locs : List Loc) (ls : Array Slot) (wr : Int32) (v1 : Int32) (v3 : Int32) (z0 : Int32), va_P (dC, dI) vwCl (wR cA h0 q1 q2 q3 q4 q5 q6 q7 rm fl us lg se we wh th nx md wr) H → va_D A (wR cA h0 q1 q2 q3 q4 q5 q6 q7 rm fl us lg se we wh th nx md wr) → va_S A s.heap H locs → lv_has ls 4 [(0, .ref h0), (1, .int v1), (3, .int v3)] → f_R_readable_J35 rc rm fl wr v1 v3 z0 = some (r, wr') → W p l e (headSpec ws_R_readable rm_R_readable).room s m args below meth c H locs 0 0 (MQ below (va_Qi (S := Unit) (fun z _ => r = z) (fun _ t => va_P (dC, dI) vwCl (wR cA h0 q1 q2 q3 q4 q5 q6 q7 rm fl us lg se we wh th nx md (wr')) t.heap ∧ va_D A (wR cA h0 q1 q2 q3 q4 q5 q6 q7 rm fl us lg se we wh th nx md (wr'))) A) args s 0 0 A) (F0 m 35 ls [.int z0]) := by
    intro rc hrec0
    intro H locs ls wr v1 v3 z0 hP hD hS hl hF
    have hF : (rc rm fl wr v1 z0 (v3 + (1 : Int32))) = some (r, wr') := hF
    refine lv_istore_n hx hb d_R_readable_35 rfl hl (by decide) rfl (fun ls hl => ?_)
    have hl : lv_has ls 4 [(2, .int z0), (0, .ref h0), (1, .int v1), (3, .int v3)] := hl
    refine lv_iinc (k := 3) (v := (v3 + (1 : Int32))) hx hb d_R_readable_36 hl rfl rfl (by decide) rfl (fun ls hl => ?_)
    have hl : lv_has ls 4 [(3, .int (v3 + (1 : Int32))), (2, .int z0), (0, .ref h0), (1, .int v1)] := hl
    refine lv_goto hx hb d_R_readable_39 (tgt := 4) (by decide) ?_
    exact hrec0 _ _ _ wr v1 z0 (v3 + (1 : Int32)) hP hD hS (lv_sub hl [2, 3, 1, 0] rfl) hF
  have J34 : ∀ (rc : (Nat → Int32) → (Nat → Int32) → Int32 → Int32 → Int32 → Int32 → Option (Int32 × Int32)) (hrec0 : ∀ (H : Heap) (locs : List Loc) (ls : Array Slot) (wr : Int32) (v1 : Int32) (v2 : Int32) (v3 : Int32), va_P (dC, dI) vwCl (wR cA h0 q1 q2 q3 q4 q5 q6 q7 rm fl us lg se we wh th nx md wr) H → va_D A (wR cA h0 q1 q2 q3 q4 q5 q6 q7 rm fl us lg se we wh th nx md wr) → va_S A s.heap H locs → lv_has ls 4 [(0, .ref h0), (1, .int v1), (2, .int v2), (3, .int v3)] → rc rm fl wr v1 v2 v3 = some (r, wr') → W p l e (headSpec ws_R_readable rm_R_readable).room s m args below meth c H locs 0 0 (MQ below (va_Qi (S := Unit) (fun z _ => r = z) (fun _ t => va_P (dC, dI) vwCl (wR cA h0 q1 q2 q3 q4 q5 q6 q7 rm fl us lg se we wh th nx md (wr')) t.heap ∧ va_D A (wR cA h0 q1 q2 q3 q4 q5 q6 q7 rm fl us lg se we wh th nx md (wr'))) A) args s 0 0 A) (F0 m 4 ls [])), ∀ (H : Heap) (locs : List Loc) (ls : Array Slot) (wr : Int32) (v1 : Int32) (v3 : Int32), va_P (dC, dI) vwCl (wR cA h0 q1 q2 q3 q4 q5 q6 q7 rm fl us lg se we wh th nx md wr) H → va_D A (wR cA h0 q1 q2 q3 q4 q5 q6 q7 rm fl us lg se we wh th nx md wr) → va_S A s.heap H locs → lv_has ls 4 [(0, .ref h0), (1, .int v1), (3, .int v3)] → f_R_readable_J34 rc rm fl wr v1 v3 = some (r, wr') → W p l e (headSpec ws_R_readable rm_R_readable).room s m args below meth c H locs 0 0 (MQ below (va_Qi (S := Unit) (fun z _ => r = z) (fun _ t => va_P (dC, dI) vwCl (wR cA h0 q1 q2 q3 q4 q5 q6 q7 rm fl us lg se we wh th nx md (wr')) t.heap ∧ va_D A (wR cA h0 q1 q2 q3 q4 q5 q6 q7 rm fl us lg se we wh th nx md (wr'))) A) args s 0 0 A) (F0 m 34 ls []) := by
    intro rc hrec0
    intro H locs ls wr v1 v3 hP hD hS hl hF
    have hF : (f_R_readable_J35 rc rm fl wr v1 v3 (0 : Int32)) = some (r, wr') := hF
    refine lv_iconst (v := (0 : Int32)) hx hb d_R_readable_34 (by decide) ?_
    exact J35 _ hrec0 _ _ _ wr v1 v3 (0 : Int32) hP hD hS hl hF
  have LH : ∀ n : Nat, (∀ (H : Heap) (locs : List Loc) (ls : Array Slot) (wr : Int32) (v1 : Int32) (v2 : Int32) (v3 : Int32), va_P (dC, dI) vwCl (wR cA h0 q1 q2 q3 q4 q5 q6 q7 rm fl us lg se we wh th nx md wr) H → va_D A (wR cA h0 q1 q2 q3 q4 q5 q6 q7 rm fl us lg se we wh th nx md wr) → va_S A s.heap H locs → lv_has ls 4 [(0, .ref h0), (1, .int v1), (2, .int v2), (3, .int v3)] → f_R_readable_H n rm fl wr v1 v2 v3 = some (r, wr') → W p l e (headSpec ws_R_readable rm_R_readable).room s m args below meth c H locs 0 0 (MQ below (va_Qi (S := Unit) (fun z _ => r = z) (fun _ t => va_P (dC, dI) vwCl (wR cA h0 q1 q2 q3 q4 q5 q6 q7 rm fl us lg se we wh th nx md (wr')) t.heap ∧ va_D A (wR cA h0 q1 q2 q3 q4 q5 q6 q7 rm fl us lg se we wh th nx md (wr'))) A) args s 0 0 A) (F0 m 4 ls [])) := by
    intro n
    induction n with
    | zero =>
      exact (by intro H locs ls wr v1 v2 v3 hP hD hS hl hF; have hF : (none : Option (Int32 × Int32)) = _ := hF; cases hF)
    | succ n ih =>
      have hrec0 := ih
      intro H locs ls wr v1 v2 v3 hP hD hS hl hF
      have hF : (if (4 : Int32) ≤ v3 then (if ¬ (v2 = 0 ∨ v2 = 1) then none else some (v2, wr)) else (if v2 = 0 then (f_R_readable_J34 (f_R_readable_H n) rm fl wr v1 v3) else (if (((5 : Int32) * v1) + v3) < 0 ∨ 80 ≤ (((5 : Int32) * v1) + v3).toNatClampNeg then none else (f_R_dataOf rm wr (fl (((5 : Int32) * v1) + v3).toNatClampNeg)).bind fun (r24, wr24) => if r24 < 0 then (f_R_readable_J34 (f_R_readable_H n) rm fl wr24 v1 v3) else (f_R_readable_J35 (f_R_readable_H n) rm fl wr24 v1 v3 (1 : Int32))))) = some (r, wr') := hF
      refine lv_iload_n hx hb d_R_readable_4 rfl (lv_at hl 3 rfl) ?_
      refine lv_iconst (v := (4 : Int32)) hx hb d_R_readable_5 (by decide) ?_
      refine lv_icmp_ge hx hb d_R_readable_6 (tgt := 42) (by decide) (fun h6 => ?_) (fun h6 => ?_)
      · have hF := tx_t h6 hF
        refine lv_iload_n hx hb d_R_readable_42 rfl (lv_at hl 2 rfl) ?_
        obtain ⟨hz, hF⟩ := tx_g hF
        have hz := Classical.not_not.mp hz
        cases hF
        exact W.zret hx hb hr (tx_z hz) (fun t ht hW => ⟨⟨_, (), rfl, rfl, by rw [ht]; exact hP, hD⟩, hS.F ht⟩) hS.2.2 d_R_readable_43
      · have hF := tx_f h6 hF
        refine lv_iload_n hx hb d_R_readable_9 rfl (lv_at hl 2 rfl) ?_
        refine lv_if_eq hx hb d_R_readable_10 (tgt := 34) (by decide) (fun h10 => ?_) (fun h10 => ?_)
        · have hF := tx_t h10 hF
          exact J34 _ hrec0 _ _ _ wr v1 v3 hP hD hS (lv_sub hl [0, 1, 3] rfl) hF
        · have hF := tx_f h10 hF
          refine lv_aload_n hx hb d_R_readable_13 rfl (lv_at hl 0 rfl) ?_
          refine lv_aload_n hx hb d_R_readable_14 rfl (lv_at hl 0 rfl) ?_
          refine va_get (D := (dC, dI)) (ci := 2) (v := .ref q2) (C := "FlashStoreModel") (T := TR) (N := 11) hx hb hts inTR hown hK hP 0 rfl rfl 2 (by decide) w0 (fun _ h9 => h9) rfl d_R_readable_15 ?_
          refine lv_iconst (v := (5 : Int32)) hx hb d_R_readable_18 (by decide) ?_
          refine lv_iload_n hx hb d_R_readable_19 rfl (lv_at hl 1 rfl) ?_
          refine lv_imul hx hb d_R_readable_20 ?_
          refine lv_iload_n hx hb d_R_readable_21 rfl (lv_at hl 3 rfl) ?_
          refine lv_iadd hx hb d_R_readable_22 ?_
          obtain ⟨hi23, hF⟩ := tx_g hF
          refine va_iald hx hb hK hP 2 0 rfl rfl hi23 d_R_readable_23 ?_
          obtain ⟨⟨r24, wr24⟩, hc24, hF⟩ := tx_b hF
          try dsimp only at hF
          have hPc := hP.sub (ws' := (wR cA h0 q1 q2 q3 q4 q5 q6 q7 rm fl us lg se we wh th nx md wr)) [0, 1, 2, 3, 4, 5, 6, 7] rfl
          have hDc := hD.sub (ws' := (wR cA h0 q1 q2 q3 q4 q5 q6 q7 rm fl us lg se we wh th nx md wr)) [0, 1, 2, 3, 4, 5, 6, 7] (by decide) rfl
          have hFc := va_free (wc := (wR cA h0 q1 q2 q3 q4 q5 q6 q7 rm fl us lg se we wh th nx md wr)) hD hS hA [0, 1, 2, 3, 4, 5, 6, 7] rfl
          refine va_calli (va_runV (As := [.int (fl (((5 : Int32) * v1) + v3).toNatClampNeg)]) (rest := []) ⟨hx, hb, hml, hown, hts⟩ (c_R_dataOf l dC dI cA h0 q1 q2 q3 q4 q5 q6 q7 H.size rm fl us lg se we wh th nx md wr (fl (((5 : Int32) * v1) + v3).toNatClampNeg) r24 wr24 hc24) (cwV 1 hts (tg_V bq_3_15 bq_3_17 bq_s_20 bq_1_4 bq_3_18) rfl rfl rfl (by decide +kernel) ⟨Nat.le_of_ble_eq_true rfl, Nat.le_of_ble_eq_true rfl⟩) ⟨tx_blW, (va_recv (ci := 2) (q0 := 0) hK hP rfl rfl), tx_preW hPc hDc hK hNw⟩ rfl rfl hl.1 rfl (lv_room (Nat.le_of_ble_eq_true rfl)) d_R_readable_24 ⟨Nat.zero_le _, Nat.zero_le _⟩) hS (fun q _ h => hFc q h) hFc (fun zz _u t H locs ht hvm hw hB hz1 hk1 hS => ?_)
          subst hw
          obtain ⟨hP1, hD1⟩ := hB
          rw [ht] at hP1
          obtain ⟨hP2, hD2⟩ := va_join (wr := []) (w1 := (wR cA h0 q1 q2 q3 q4 q5 q6 q7 rm fl us lg se we wh th nx md wr24)) hP hD [0, 1, 2, 3, 4, 5, 6, 7] [] rfl rfl (by decide) (by decide) hk1 hFc hP1 hD1
          have hP := hP2.sub (ws' := (wR cA h0 q1 q2 q3 q4 q5 q6 q7 rm fl us lg se we wh th nx md wr24)) [0, 1, 2, 3, 4, 5, 6, 7] rfl
          have hD := hD2.sub (ws' := (wR cA h0 q1 q2 q3 q4 q5 q6 q7 rm fl us lg se we wh th nx md wr24)) [0, 1, 2, 3, 4, 5, 6, 7] (by decide) rfl
          refine lv_if_lt hx hb d_R_readable_27 (tgt := 34) (by decide) (fun h27 => ?_) (fun h27 => ?_)
          · have hF := tx_t h27 hF
            exact J34 _ hrec0 _ _ _ wr24 v1 v3 hP hD hS (lv_sub hl [0, 1, 3] rfl) hF
          · have hF := tx_f h27 hF
            refine lv_iconst (v := (1 : Int32)) hx hb d_R_readable_30 (by decide) ?_
            refine lv_goto hx hb d_R_readable_31 (tgt := 35) (by decide) ?_
            exact J35 _ hrec0 _ _ _ wr24 v1 v3 (1 : Int32) hP hD hS (lv_sub hl [0, 1, 3] rfl) hF
  obtain hrec0 := LH 100
  have hF : (f_R_readable_H 100 rm fl wr a1 (1 : Int32) (0 : Int32)) = some (r, wr') := hF
  refine lv_iconst (v := (1 : Int32)) hx hb d_R_readable_0 (by decide) ?_
  refine lv_istore_n hx hb d_R_readable_1 rfl hl (by decide) rfl (fun ls hl => ?_)
  have hl : lv_has ls 4 [(2, .int (1 : Int32)), (0, .ref h0), (1, .int a1)] := hl
  refine lv_iconst (v := (0 : Int32)) hx hb d_R_readable_2 (by decide) ?_
  refine lv_istore_n hx hb d_R_readable_3 rfl hl (by decide) rfl (fun ls hl => ?_)
  have hl : lv_has ls 4 [(3, .int (0 : Int32)), (2, .int (1 : Int32)), (0, .ref h0), (1, .int a1)] := hl
  exact hrec0 _ _ _ wr a1 (1 : Int32) (0 : Int32) hP hD hS (lv_sub hl [2, 3, 1, 0] rfl) hF
abbrev rm_R_contentOf : Room := { frames := 2, cells := 0, slots := 0, locals := 49 }
set_option maxHeartbeats 4000000 in
set_option maxRecDepth 100000 in
theorem c_R_contentOf (l : Launch) (dC : Nat → ClassId) (dI : Nat → Nat → Nat) (cA : ClassId) (h0 q1 q2 q3 q4 q5 q6 q7 sz : Nat) (rm fl us lg se we wh : Nat → Int32) (th nx md wr : Int32) (a1 : Int32) (r : Int64) (wr' : Int32) (hF : f_R_contentOf rm fl wr a1 = some (r, wr')) : Met l y_R_contentOf ws_R_contentOf rm_R_contentOf (tx_PW [.ref h0, .int a1] (dC, dI) [(cA, .int)] (wR cA h0 q1 q2 q3 q4 q5 q6 q7 rm fl us lg se we wh th nx md wr) sz) (va_Ql (S := Unit) (fun z _ => r = z) (fun _ t => va_P (dC, dI) vwCl (wR cA h0 q1 q2 q3 q4 q5 q6 q7 rm fl us lg se we wh th nx md (wr')) t.heap ∧ va_D (va_A (wR cA h0 q1 q2 q3 q4 q5 q6 q7 rm fl us lg se we wh th nx md wr) sz) (wR cA h0 q1 q2 q3 q4 q5 q6 q7 rm fl us lg se we wh th nx md (wr'))) (va_A (wR cA h0 q1 q2 q3 q4 q5 q6 q7 rm fl us lg se we wh th nx md wr) sz)) 0 0 (va_A (wR cA h0 q1 q2 q3 q4 q5 q6 q7 rm fl us lg se we wh th nx md wr) sz) := by
  refine Met.ofW (cc := b_R_contentOf) (maxL := 5) (ret := some .long) (by decide +kernel) rfl ?_
  intro p e s m args below meth c s₁ B hml hv
  obtain ⟨hargs, hsz, hP, hK, hD0, hNw⟩ := hv
  have hx := B.exec
  have hb := B.bytes
  have hr := B.returns
  have hts := atoms_spec (ws := ws_R_contentOf) B.pre
  have hown : s.vm.findClass "FlashStoreModel" = some m.cls := findClass_of_methodNamed B.named
  have hlocks := B.notSynchronized
  subst hsz
  have hD := hD0.self (sz := s.heap.size)
  generalize hAe : va_A (wR cA h0 q1 q2 q3 q4 q5 q6 q7 rm fl us lg se we wh th nx md wr) s.heap.size = A at hD ⊢
  have hA : ∀ q : Nat, s.heap.size ≤ q → A q := fun q h => by rw [← hAe]; exact Or.inr h
  have hS : va_S A s.heap s.heap [] := va_S.rf
  have hP : va_P (dC, dI) vwCl (wR cA h0 q1 q2 q3 q4 q5 q6 q7 rm fl us lg se we wh th nx md wr) s.heap := hP
  have w0 := (hts _ (List.mem_cons_of_mem _ bq_2_194))
  have hl := lv_entry ([.ref h0, .int a1]) (n := 5) (Nat.le_of_ble_eq_true rfl)
  have hen : entryFrame m args 5 = _ := (congrArg (fun z => entryFrame m z 5) hargs).trans (lg_entry_eq m ([.ref h0, .int a1]) 5)
  refine W.eq hen ?_
  clear hen
  generalize (lg_sl ([.ref h0, .int a1]) ++ List.replicate (5 - (lg_sl ([.ref h0, .int a1])).length) Slot.unset).toArray = ls at hl ⊢
  have hl : lv_has ls 5 [(0, .ref h0), (1, .int a1)] := hl
  have LH : ∀ n : Nat, (∀ (H : Heap) (locs : List Loc) (ls : Array Slot) (wr : Int32) (v1 : Int32) (v2 : Int64) (v4 : Int32), va_P (dC, dI) vwCl (wR cA h0 q1 q2 q3 q4 q5 q6 q7 rm fl us lg se we wh th nx md wr) H → va_D A (wR cA h0 q1 q2 q3 q4 q5 q6 q7 rm fl us lg se we wh th nx md wr) → va_S A s.heap H locs → lv_has ls 5 [(0, .ref h0), (1, .int v1), (2, .long v2), (4, .int v4)] → f_R_contentOf_H n rm fl wr v1 v2 v4 = some (r, wr') → W p l e (headSpec ws_R_contentOf rm_R_contentOf).room s m args below meth c H locs 0 0 (MQ below (va_Ql (S := Unit) (fun z _ => r = z) (fun _ t => va_P (dC, dI) vwCl (wR cA h0 q1 q2 q3 q4 q5 q6 q7 rm fl us lg se we wh th nx md (wr')) t.heap ∧ va_D A (wR cA h0 q1 q2 q3 q4 q5 q6 q7 rm fl us lg se we wh th nx md (wr'))) A) args s 0 0 A) (F0 m 5 ls [])) := by
    intro n
    induction n with
    | zero =>
      exact (by intro H locs ls wr v1 v2 v4 hP hD hS hl hF; have hF : (none : Option (Int64 × Int32)) = _ := hF; cases hF)
    | succ n ih =>
      have hrec0 := ih
      intro H locs ls wr v1 v2 v4 hP hD hS hl hF
      have hF : (if v4 < 0 then (some (v2, wr)) else (if (((5 : Int32) * v1) + v4) < 0 ∨ 80 ≤ (((5 : Int32) * v1) + v4).toNatClampNeg then none else (f_R_dataOf rm wr (fl (((5 : Int32) * v1) + v4).toNatClampNeg)).bind fun (r26, wr26) => f_R_contentOf_H n rm fl wr26 v1 ((v2 <<< ((16 : Int32).toInt64 &&& 63)) ||| r26.toInt64) (v4 + (-1 : Int32)))) = some (r, wr') := hF
      refine lv_iload hx hb d_R_contentOf_5 (lv_at hl 3 rfl) ?_
      refine lv_if_lt hx hb d_R_contentOf_7 (tgt := 38) (by decide) (fun h7 => ?_) (fun h7 => ?_)
      · have hF := tx_t h7 hF
        refine lv_lload_n hx hb d_R_contentOf_38 rfl (lv_at hl 2 rfl) ?_
        cases hF
        exact W.lret hx hb hr (fun t ht hW => ⟨⟨_, (), rfl, rfl, by rw [ht]; exact hP, hD⟩, hS.F ht⟩) hS.2.2 d_R_contentOf_39
      · have hF := tx_f h7 hF
        refine lv_lload_n hx hb d_R_contentOf_10 rfl (lv_at hl 2 rfl) ?_
        refine lv_bipush (v := (16 : Int32)) hx hb d_R_contentOf_11 (by decide) ?_
        refine lv_lshl hx hb d_R_contentOf_13 rfl ?_
        refine lv_aload_n hx hb d_R_contentOf_14 rfl (lv_at hl 0 rfl) ?_
        refine lv_aload_n hx hb d_R_contentOf_15 rfl (lv_at hl 0 rfl) ?_
        refine va_get (D := (dC, dI)) (ci := 2) (v := .ref q2) (C := "FlashStoreModel") (T := TR) (N := 11) hx hb hts inTR hown hK hP 0 rfl rfl 2 (by decide) w0 (fun _ h9 => h9) rfl d_R_contentOf_16 ?_
        refine lv_iconst (v := (5 : Int32)) hx hb d_R_contentOf_19 (by decide) ?_
        refine lv_iload_n hx hb d_R_contentOf_20 rfl (lv_at hl 1 rfl) ?_
        refine lv_imul hx hb d_R_contentOf_21 ?_
        refine lv_iload hx hb d_R_contentOf_22 (lv_at hl 3 rfl) ?_
        refine lv_iadd hx hb d_R_contentOf_24 ?_
        obtain ⟨hi25, hF⟩ := tx_g hF
        refine va_iald hx hb hK hP 2 0 rfl rfl hi25 d_R_contentOf_25 ?_
        obtain ⟨⟨r26, wr26⟩, hc26, hF⟩ := tx_b hF
        try dsimp only at hF
        have hPc := hP.sub (ws' := (wR cA h0 q1 q2 q3 q4 q5 q6 q7 rm fl us lg se we wh th nx md wr)) [0, 1, 2, 3, 4, 5, 6, 7] rfl
        have hDc := hD.sub (ws' := (wR cA h0 q1 q2 q3 q4 q5 q6 q7 rm fl us lg se we wh th nx md wr)) [0, 1, 2, 3, 4, 5, 6, 7] (by decide) rfl
        have hFc := va_free (wc := (wR cA h0 q1 q2 q3 q4 q5 q6 q7 rm fl us lg se we wh th nx md wr)) hD hS hA [0, 1, 2, 3, 4, 5, 6, 7] rfl
        refine va_calli (va_runV (As := [.int (fl (((5 : Int32) * v1) + v4).toNatClampNeg)]) (rest := [.long (v2 <<< ((16 : Int32).toInt64 &&& 63))]) ⟨hx, hb, hml, hown, hts⟩ (c_R_dataOf l dC dI cA h0 q1 q2 q3 q4 q5 q6 q7 H.size rm fl us lg se we wh th nx md wr (fl (((5 : Int32) * v1) + v4).toNatClampNeg) r26 wr26 hc26) (cwV 1 hts (tg_V bq_3_15 bq_3_17 bq_s_20 bq_1_4 bq_3_18) rfl rfl rfl (by decide +kernel) ⟨Nat.le_of_ble_eq_true rfl, Nat.le_of_ble_eq_true rfl⟩) ⟨tx_blW, (va_recv (ci := 2) (q0 := 0) hK hP rfl rfl), tx_preW hPc hDc hK hNw⟩ rfl rfl hl.1 rfl (lv_room (Nat.le_of_ble_eq_true rfl)) d_R_contentOf_26 ⟨Nat.zero_le _, Nat.zero_le _⟩) hS (fun q _ h => hFc q h) hFc (fun zz _u t H locs ht hvm hw hB hz1 hk1 hS => ?_)
        subst hw
        obtain ⟨hP1, hD1⟩ := hB
        rw [ht] at hP1
        obtain ⟨hP2, hD2⟩ := va_join (wr := []) (w1 := (wR cA h0 q1 q2 q3 q4 q5 q6 q7 rm fl us lg se we wh th nx md wr26)) hP hD [0, 1, 2, 3, 4, 5, 6, 7] [] rfl rfl (by decide) (by decide) hk1 hFc hP1 hD1
        have hP := hP2.sub (ws' := (wR cA h0 q1 q2 q3 q4 q5 q6 q7 rm fl us lg se we wh th nx md wr26)) [0, 1, 2, 3, 4, 5, 6, 7] rfl
        have hD := hD2.sub (ws' := (wR cA h0 q1 q2 q3 q4 q5 q6 q7 rm fl us lg se we wh th nx md wr26)) [0, 1, 2, 3, 4, 5, 6, 7] (by decide) rfl
        refine lv_i2l hx hb d_R_contentOf_29 rfl ?_
        refine lv_lor hx hb d_R_contentOf_30 ?_
        refine lv_lstore_n hx hb d_R_contentOf_31 rfl hl (by decide) rfl (fun ls hl => ?_)
        have hl : lv_has ls 5 [(2, .long ((v2 <<< ((16 : Int32).toInt64 &&& 63)) ||| r26.toInt64)), (0, .ref h0), (1, .int v1), (4, .int v4)] := hl
        refine lv_iinc (k := 3) (v := (v4 + (-1 : Int32))) hx hb d_R_contentOf_32 hl rfl rfl (by decide) rfl (fun ls hl => ?_)
        have hl : lv_has ls 5 [(4, .int (v4 + (-1 : Int32))), (2, .long ((v2 <<< ((16 : Int32).toInt64 &&& 63)) ||| r26.toInt64)), (0, .ref h0), (1, .int v1)] := hl
        refine lv_goto hx hb d_R_contentOf_35 (tgt := 5) (by decide) ?_
        exact hrec0 _ _ _ wr26 v1 ((v2 <<< ((16 : Int32).toInt64 &&& 63)) ||| r26.toInt64) (v4 + (-1 : Int32)) hP hD hS (lv_sub hl [2, 3, 1, 0] rfl) hF
  obtain hrec0 := LH 100
  have hF : (f_R_contentOf_H 100 rm fl wr a1 (0 : Int64) (3 : Int32)) = some (r, wr') := hF
  refine lv_lconst (v := (0 : Int64)) hx hb d_R_contentOf_0 (by decide) ?_
  refine lv_lstore_n hx hb d_R_contentOf_1 rfl hl (by decide) rfl (fun ls hl => ?_)
  have hl : lv_has ls 5 [(2, .long (0 : Int64)), (0, .ref h0), (1, .int a1)] := hl
  refine lv_iconst (v := (3 : Int32)) hx hb d_R_contentOf_2 (by decide) ?_
  refine lv_istore hx hb d_R_contentOf_3 hl (by decide) rfl (fun ls hl => ?_)
  have hl : lv_has ls 5 [(4, .int (3 : Int32)), (2, .long (0 : Int64)), (0, .ref h0), (1, .int a1)] := hl
  exact hrec0 _ _ _ wr a1 (0 : Int64) (3 : Int32) hP hD hS (lv_sub hl [2, 3, 1, 0] rfl) hF
