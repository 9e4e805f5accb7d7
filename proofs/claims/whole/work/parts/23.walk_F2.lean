abbrev rm_F_isWholeFree : Room := { frames := 2, cells := 0, slots := 0, locals := 45 }
set_option maxHeartbeats 4000000 in
set_option maxRecDepth 100000 in
theorem c_F_isWholeFree (l : Launch) (dC : Nat → ClassId) (dI : Nat → Nat → Nat) (cA : ClassId) (h0 q1 q2 q3 q4 q5 q6 : Nat) (st pl tk wd er : Nat → Int32) (nx md : Int32) (a1 : Int32) (r : Int32)  (hF : f_F_isWholeFree st a1 = some r) : Met l y_F_isWholeFree ws_F_isWholeFree rm_F_isWholeFree (tx_PR [.ref h0, .int a1] (dC, dI) [(cA, .int)] (wF cA h0 q1 q2 q3 q4 q5 q6 st pl tk wd er nx md)) (vp_Si (fun z => r = z)) 0 0 (fun _ => False) := by
  refine Met.ofW (cc := b_F_isWholeFree) (maxL := 2) (ret := some .boolean) (by decide +kernel) rfl ?_
  intro p e s m args below meth c s₁ B hml hv
  obtain ⟨hargs, hP, hK⟩ := hv
  have hx := B.exec
  have hb := B.bytes
  have hr := B.returns
  have hts := atoms_spec (ws := ws_F_isWholeFree) B.pre
  have hown : s.vm.findClass "FlashStore" = some m.cls := findClass_of_methodNamed B.named
  have hlocks := B.notSynchronized
  have hl := lv_entry ([.ref h0, .int a1]) (n := 2) (Nat.le_of_ble_eq_true rfl)
  have hen : entryFrame m args 2 = _ := (congrArg (fun z => entryFrame m z 2) hargs).trans (lg_entry_eq m ([.ref h0, .int a1]) 2)
  refine W.eq hen ?_
  clear hen
  generalize (lg_sl ([.ref h0, .int a1]) ++ List.replicate (2 - (lg_sl ([.ref h0, .int a1])).length) Slot.unset).toArray = ls at hl ⊢
  have hl : lv_has ls 2 [(0, .ref h0), (1, .int a1)] := hl
  have J15 : ∀ (ls : Array Slot) (z0 : Int32), lv_has ls 2 [] → f_F_isWholeFree_J15 st z0 = some r → W p l e (headSpec ws_F_isWholeFree rm_F_isWholeFree).room s m args below meth c s.heap [] 0 0 (MQ below (vp_Si (fun z => r = z)) args s 0 0 (fun _ => False)) (F0 m 15 ls [.int z0]) := by
    intro ls z0 hl hF
    have hF : (if ¬ (z0 = 0 ∨ z0 = 1) then none else some z0) = some r := hF
    obtain ⟨hz, hF⟩ := tx_g hF
    have hz := Classical.not_not.mp hz
    exact W.zret hx hb hr (tx_z hz) (fun t ht hW => ⟨_, rfl, (Option.some.inj hF).symm, ht⟩) (fun q h => by cases h) d_F_isWholeFree_15
  have hF : ((f_F_countInBlock st a1 (0 : Int32)).bind fun r3 => if r3 = (4 : Int32) then (f_F_isWholeFree_J15 st (1 : Int32)) else (f_F_isWholeFree_J15 st (0 : Int32))) = some r := hF
  refine lv_aload_n hx hb d_F_isWholeFree_0 rfl (lv_at hl 0 rfl) ?_
  refine lv_iload_n hx hb d_F_isWholeFree_1 rfl (lv_at hl 1 rfl) ?_
  refine lv_iconst (v := (0 : Int32)) hx hb d_F_isWholeFree_2 (by decide) ?_
  obtain ⟨r3, hc3, hF⟩ := tx_b hF
  refine vp_callSi (W.runV (As := [.int a1, .int (0 : Int32)]) (rest := []) ⟨hx, hb, hml, hown, hts⟩ (c_F_countInBlock l dC dI cA h0 q1 q2 q3 q4 q5 q6 st pl tk wd er nx md a1 (0 : Int32) r3 hc3) (cwV 2 hts (tg_V bq_2_30 bq_2_32 bq_s_8 bq_1_1 bq_2_33) rfl rfl rfl (by decide +kernel) ⟨Nat.le_of_ble_eq_true rfl, Nat.le_of_ble_eq_true rfl⟩) ⟨tx_blR, (va_recv (ci := 1) (q0 := 0) hK hP rfl rfl), tx_preR (hP) hK⟩ rfl rfl hl.1 rfl (lv_room (Nat.le_of_ble_eq_true rfl)) d_F_isWholeFree_3 ⟨Nat.zero_le _, Nat.zero_le _⟩) (fun zz hz => ?_)
  subst hz
  refine lv_iconst (v := (4 : Int32)) hx hb d_F_isWholeFree_6 (by decide) ?_
  refine lv_icmp_ne hx hb d_F_isWholeFree_7 (tgt := 14) (by decide) (fun h7 => ?_) (fun h7 => ?_)
  · have hF := tx_f h7 hF
    refine lv_iconst (v := (0 : Int32)) hx hb d_F_isWholeFree_14 (by decide) ?_
    exact J15 _ (0 : Int32) (lv_sub hl [] rfl) hF
  · have hF := tx_t h7 hF
    refine lv_iconst (v := (1 : Int32)) hx hb d_F_isWholeFree_10 (by decide) ?_
    refine lv_goto hx hb d_F_isWholeFree_11 (tgt := 15) (by decide) ?_
    exact J15 _ (1 : Int32) (lv_sub hl [] rfl) hF
abbrev rm_F_freePlace : Room := { frames := 3, cells := 0, slots := 0, locals := 66 }
set_option maxHeartbeats 4000000 in
set_option maxRecDepth 100000 in
theorem c_F_freePlace (l : Launch) (dC : Nat → ClassId) (dI : Nat → Nat → Nat) (cA : ClassId) (h0 q1 q2 q3 q4 q5 q6 : Nat) (st pl tk wd er : Nat → Int32) (nx md : Int32) (a1 : Int32) (r : Int32)  (hF : f_F_freePlace st a1 = some r) : Met l y_F_freePlace ws_F_freePlace rm_F_freePlace (tx_PR [.ref h0, .int a1] (dC, dI) [(cA, .int)] (wF cA h0 q1 q2 q3 q4 q5 q6 st pl tk wd er nx md)) (vp_Si (fun z => r = z)) 0 0 (fun _ => False) := by
  refine Met.ofW (cc := b_F_freePlace) (maxL := 5) (ret := some .int) (by decide +kernel) rfl ?_
  intro p e s m args below meth c s₁ B hml hv
  obtain ⟨hargs, hP, hK⟩ := hv
  have hx := B.exec
  have hb := B.bytes
  have hr := B.returns
  have hts := atoms_spec (ws := ws_F_freePlace) B.pre
  have hown : s.vm.findClass "FlashStore" = some m.cls := findClass_of_methodNamed B.named
  have hlocks := B.notSynchronized
  have w0 := (hts _ (List.mem_cons_of_mem _ bq_1_42))
  have hl := lv_entry ([.ref h0, .int a1]) (n := 5) (Nat.le_of_ble_eq_true rfl)
  have hen : entryFrame m args 5 = _ := (congrArg (fun z => entryFrame m z 5) hargs).trans (lg_entry_eq m ([.ref h0, .int a1]) 5)
  refine W.eq hen ?_
  clear hen
  generalize (lg_sl ([.ref h0, .int a1]) ++ List.replicate (5 - (lg_sl ([.ref h0, .int a1])).length) Slot.unset).toArray = ls at hl ⊢
  have hl : lv_has ls 5 [(0, .ref h0), (1, .int a1)] := hl
  have J52 : ∀ (rc : (Nat → Int32) → Int32 → Int32 → Int32 → Option (Int32)) (hrec0 : ∀ (ls : Array Slot) (v1 : Int32) (v2 : Int32) (v3 : Int32), lv_has ls 5 [(0, .ref h0), (1, .int v1), (2, .int v2), (3, .int v3)] → rc st v1 v2 v3 = some r → W p l e (headSpec ws_F_freePlace rm_F_freePlace).room s m args below meth c s.heap [] 0 0 (MQ below (vp_Si (fun z => r = z)) args s 0 0 (fun _ => False)) (F0 m 4 ls [])), ∀ (ls : Array Slot) (v1 : Int32) (v2 : Int32) (v3 : Int32), lv_has ls 5 [(0, .ref h0), (1, .int v1), (2, .int v2), (3, .int v3)] → f_F_freePlace_J52 rc st v1 v2 v3 = some r → W p l e (headSpec ws_F_freePlace rm_F_freePlace).room s m args below meth c s.heap [] 0 0 (MQ below (vp_Si (fun z => r = z)) args s 0 0 (fun _ => False)) (F0 m 52 ls []) := by
    intro rc hrec0
    intro ls v1 v2 v3 hl hF
    have hF : (rc st v1 v2 (v3 + (1 : Int32))) = some r := hF
    refine lv_iinc (k := 3) (v := (v3 + (1 : Int32))) hx hb d_F_freePlace_52 hl rfl rfl (by decide) rfl (fun ls hl => ?_)
    have hl : lv_has ls 5 [(3, .int (v3 + (1 : Int32))), (0, .ref h0), (1, .int v1), (2, .int v2)] := hl
    refine lv_goto hx hb d_F_freePlace_55 (tgt := 4) (by decide) ?_
    exact hrec0 _ v1 v2 (v3 + (1 : Int32)) (lv_sub hl [1, 2, 3, 0] rfl) hF
  have LH : ∀ n : Nat, (∀ (ls : Array Slot) (v1 : Int32) (v2 : Int32) (v3 : Int32), lv_has ls 5 [(0, .ref h0), (1, .int v1), (2, .int v2), (3, .int v3)] → f_F_freePlace_H n st v1 v2 v3 = some r → W p l e (headSpec ws_F_freePlace rm_F_freePlace).room s m args below meth c s.heap [] 0 0 (MQ below (vp_Si (fun z => r = z)) args s 0 0 (fun _ => False)) (F0 m 4 ls [])) := by
    intro n
    induction n with
    | zero =>
      exact (by intro ls v1 v2 v3 hl hF; have hF : (none : Option (Int32)) = _ := hF; cases hF)
    | succ n ih =>
      have hrec0 := ih
      intro ls v1 v2 v3 hl hF
      have hF : (if (16 : Int32) ≤ v3 then (some v2) else ((f_F_blockOf v3).bind fun r11 => if v3 < 0 ∨ 16 ≤ v3.toNatClampNeg then none else if (st v3.toNatClampNeg) = 0 then (if r11 = v1 then (f_F_freePlace_J52 (f_F_freePlace_H n) st v1 v2 v3) else ((f_F_isWholeFree st r11).bind fun r37 => if r37 = 0 then (some v3) else (if v2 = (-1 : Int32) then (f_F_freePlace_J52 (f_F_freePlace_H n) st v1 v3 v3) else (f_F_freePlace_J52 (f_F_freePlace_H n) st v1 v2 v3)))) else (f_F_freePlace_J52 (f_F_freePlace_H n) st v1 v2 v3))) = some r := hF
      refine lv_iload_n hx hb d_F_freePlace_4 rfl (lv_at hl 3 rfl) ?_
      refine lv_bipush (v := (16 : Int32)) hx hb d_F_freePlace_5 (by decide) ?_
      refine lv_icmp_ge hx hb d_F_freePlace_7 (tgt := 58) (by decide) (fun h7 => ?_) (fun h7 => ?_)
      · have hF := tx_t h7 hF
        refine lv_iload_n hx hb d_F_freePlace_58 rfl (lv_at hl 2 rfl) ?_
        exact W.iret hx hb hr (fun t ht hW => ⟨_, rfl, (Option.some.inj hF).symm, ht⟩) (fun q h => by cases h) d_F_freePlace_59
      · have hF := tx_f h7 hF
        refine lv_iload_n hx hb d_F_freePlace_10 rfl (lv_at hl 3 rfl) ?_
        obtain ⟨r11, hc11, hF⟩ := tx_b hF
        refine vp_callSi (W.runS (As := [.int v3]) (rest := []) ⟨hx, hb, hml, hown, hts⟩ (c_F_blockOf l v3 r11 hc11) (va_cwS 1 hts (tg_S bq_2_23 bq_2_24 bq_1_1 bq_2_25) rfl rfl rfl (by decide +kernel) ⟨Nat.le_of_ble_eq_true rfl, Nat.le_of_ble_eq_true rfl⟩) ⟨tx_bl0, tx_pre0⟩ rfl rfl hl.1 rfl (lv_room (Nat.le_of_ble_eq_true rfl)) d_F_freePlace_11 ⟨Nat.zero_le _, Nat.zero_le _⟩) (fun zz hz => ?_)
        subst hz
        refine lv_istore hx hb d_F_freePlace_14 hl (by decide) rfl (fun ls hl => ?_)
        have hl : lv_has ls 5 [(4, .int r11), (0, .ref h0), (1, .int v1), (2, .int v2), (3, .int v3)] := hl
        refine lv_aload_n hx hb d_F_freePlace_16 rfl (lv_at hl 1 rfl) ?_
        refine va_get (D := (dC, dI)) (ci := 1) (v := .ref q2) (C := "FlashStore") (T := TF) (N := 6) hx hb hts inTF hown hK hP 0 rfl rfl 1 (by decide) w0 (fun _ h9 => h9) rfl d_F_freePlace_17 ?_
        refine lv_iload_n hx hb d_F_freePlace_20 rfl (lv_at hl 4 rfl) ?_
        obtain ⟨hi21, hF⟩ := tx_g hF
        refine va_iald hx hb hK hP 2 0 rfl rfl hi21 d_F_freePlace_21 ?_
        refine lv_if_ne hx hb d_F_freePlace_22 (tgt := 52) (by decide) (fun h22 => ?_) (fun h22 => ?_)
        · have hF := tx_f h22 hF
          exact J52 _ hrec0 _ v1 v2 v3 (lv_sub hl [1, 2, 3, 4] rfl) hF
        · have hF := tx_t h22 hF
          refine lv_iload hx hb d_F_freePlace_25 (lv_at hl 0 rfl) ?_
          refine lv_iload_n hx hb d_F_freePlace_27 rfl (lv_at hl 2 rfl) ?_
          refine lv_icmp_ne hx hb d_F_freePlace_28 (tgt := 34) (by decide) (fun h28 => ?_) (fun h28 => ?_)
          · have hF := tx_f h28 hF
            refine lv_aload_n hx hb d_F_freePlace_34 rfl (lv_at hl 1 rfl) ?_
            refine lv_iload hx hb d_F_freePlace_35 (lv_at hl 0 rfl) ?_
            obtain ⟨r37, hc37, hF⟩ := tx_b hF
            refine vp_callSi (W.runV (As := [.int r11]) (rest := []) ⟨hx, hb, hml, hown, hts⟩ (c_F_isWholeFree l dC dI cA h0 q1 q2 q3 q4 q5 q6 st pl tk wd er nx md r11 r37 hc37) (cwV 1 hts (tg_V bq_2_26 bq_2_28 bq_s_7 bq_1_1 bq_2_29) rfl rfl rfl (by decide +kernel) ⟨Nat.le_of_ble_eq_true rfl, Nat.le_of_ble_eq_true rfl⟩) ⟨tx_blR, (va_recv (ci := 1) (q0 := 0) hK hP rfl rfl), tx_preR (hP) hK⟩ rfl rfl hl.1 rfl (lv_room (Nat.le_of_ble_eq_true rfl)) d_F_freePlace_37 ⟨Nat.zero_le _, Nat.zero_le _⟩) (fun zz hz => ?_)
            subst hz
            refine lv_if_ne hx hb d_F_freePlace_40 (tgt := 45) (by decide) (fun h40 => ?_) (fun h40 => ?_)
            · have hF := tx_f h40 hF
              refine lv_iload_n hx hb d_F_freePlace_45 rfl (lv_at hl 3 rfl) ?_
              refine lv_iconst (v := (-1 : Int32)) hx hb d_F_freePlace_46 (by decide) ?_
              refine lv_icmp_ne hx hb d_F_freePlace_47 (tgt := 52) (by decide) (fun h47 => ?_) (fun h47 => ?_)
              · have hF := tx_f h47 hF
                exact J52 _ hrec0 _ v1 v2 v3 (lv_sub hl [1, 2, 3, 4] rfl) hF
              · have hF := tx_t h47 hF
                refine lv_iload_n hx hb d_F_freePlace_50 rfl (lv_at hl 4 rfl) ?_
                refine lv_istore_n hx hb d_F_freePlace_51 rfl hl (by decide) rfl (fun ls hl => ?_)
                have hl : lv_has ls 5 [(2, .int v3), (4, .int r11), (0, .ref h0), (1, .int v1), (3, .int v3)] := hl
                exact J52 _ hrec0 _ v1 v3 v3 (lv_sub hl [2, 3, 0, 4] rfl) hF
            · have hF := tx_t h40 hF
              refine lv_iload_n hx hb d_F_freePlace_43 rfl (lv_at hl 4 rfl) ?_
              exact W.iret hx hb hr (fun t ht hW => ⟨_, rfl, (Option.some.inj hF).symm, ht⟩) (fun q h => by cases h) d_F_freePlace_44
          · have hF := tx_t h28 hF
            refine lv_goto hx hb d_F_freePlace_31 (tgt := 52) (by decide) ?_
            exact J52 _ hrec0 _ v1 v2 v3 (lv_sub hl [1, 2, 3, 4] rfl) hF
  obtain hrec0 := LH 100
  have hF : (f_F_freePlace_H 100 st a1 (-1 : Int32) (0 : Int32)) = some r := hF
  refine lv_iconst (v := (-1 : Int32)) hx hb d_F_freePlace_0 (by decide) ?_
  refine lv_istore_n hx hb d_F_freePlace_1 rfl hl (by decide) rfl (fun ls hl => ?_)
  have hl : lv_has ls 5 [(2, .int (-1 : Int32)), (0, .ref h0), (1, .int a1)] := hl
  refine lv_iconst (v := (0 : Int32)) hx hb d_F_freePlace_2 (by decide) ?_
  refine lv_istore_n hx hb d_F_freePlace_3 rfl hl (by decide) rfl (fun ls hl => ?_)
  have hl : lv_has ls 5 [(3, .int (0 : Int32)), (2, .int (-1 : Int32)), (0, .ref h0), (1, .int a1)] := hl
  exact hrec0 _ a1 (-1 : Int32) (0 : Int32) (lv_sub hl [2, 3, 1, 0] rfl) hF
abbrev rm_F_leavesBlockFree : Room := { frames := 4, cells := 0, slots := 0, locals := 90 }
set_option maxHeartbeats 4000000 in
set_option maxRecDepth 100000 in
theorem c_F_leavesBlockFree (l : Launch) (dC : Nat → ClassId) (dI : Nat → Nat → Nat) (cA : ClassId) (h0 q1 q2 q3 q4 q5 q6 : Nat) (st pl tk wd er : Nat → Int32) (nx md : Int32)  (r : Int32)  (hF : f_F_leavesBlockFree st = some r) : Met l y_F_leavesBlockFree ws_F_leavesBlockFree rm_F_leavesBlockFree (tx_PR [.ref h0] (dC, dI) [(cA, .int)] (wF cA h0 q1 q2 q3 q4 q5 q6 st pl tk wd er nx md)) (vp_Si (fun z => r = z)) 0 0 (fun _ => False) := by
  refine Met.ofW (cc := b_F_leavesBlockFree) (maxL := 3) (ret := some .boolean) (by decide +kernel) rfl ?_
  intro p e s m args below meth c s₁ B hml hv
  obtain ⟨hargs, hP, hK⟩ := hv
  have hx := B.exec
  have hb := B.bytes
  have hr := B.returns
  have hts := atoms_spec (ws := ws_F_leavesBlockFree) B.pre
  have hown : s.vm.findClass "FlashStore" = some m.cls := findClass_of_methodNamed B.named
  have hlocks := B.notSynchronized
  have hl := lv_entry ([.ref h0]) (n := 3) (Nat.le_of_ble_eq_true rfl)
  have hen : entryFrame m args 3 = _ := (congrArg (fun z => entryFrame m z 3) hargs).trans (lg_entry_eq m ([.ref h0]) 3)
  refine W.eq hen ?_
  clear hen
  generalize (lg_sl ([.ref h0]) ++ List.replicate (3 - (lg_sl ([.ref h0])).length) Slot.unset).toArray = ls at hl ⊢
  have hl : lv_has ls 3 [(0, .ref h0)] := hl
  have J38 : ∀ (rc : (Nat → Int32) → Int32 → Int32 → Option (Int32)) (hrec0 : ∀ (ls : Array Slot) (v1 : Int32) (v2 : Int32), lv_has ls 3 [(0, .ref h0), (1, .int v1), (2, .int v2)] → rc st v1 v2 = some r → W p l e (headSpec ws_F_leavesBlockFree rm_F_leavesBlockFree).room s m args below meth c s.heap [] 0 0 (MQ below (vp_Si (fun z => r = z)) args s 0 0 (fun _ => False)) (F0 m 15 ls [])), ∀ (ls : Array Slot) (v1 : Int32) (v2 : Int32), lv_has ls 3 [(0, .ref h0), (1, .int v1), (2, .int v2)] → f_F_leavesBlockFree_J38 rc st v1 v2 = some r → W p l e (headSpec ws_F_leavesBlockFree rm_F_leavesBlockFree).room s m args below meth c s.heap [] 0 0 (MQ below (vp_Si (fun z => r = z)) args s 0 0 (fun _ => False)) (F0 m 38 ls []) := by
    intro rc hrec0
    intro ls v1 v2 hl hF
    have hF : (rc st v1 (v2 + (1 : Int32))) = some r := hF
    refine lv_iinc (k := 2) (v := (v2 + (1 : Int32))) hx hb d_F_leavesBlockFree_38 hl rfl rfl (by decide) rfl (fun ls hl => ?_)
    have hl : lv_has ls 3 [(2, .int (v2 + (1 : Int32))), (0, .ref h0), (1, .int v1)] := hl
    refine lv_goto hx hb d_F_leavesBlockFree_41 (tgt := 15) (by decide) ?_
    exact hrec0 _ v1 (v2 + (1 : Int32)) (lv_sub hl [1, 2, 0] rfl) hF
  have LH : ∀ n : Nat, (∀ (ls : Array Slot) (v1 : Int32) (v2 : Int32), lv_has ls 3 [(0, .ref h0), (1, .int v1), (2, .int v2)] → f_F_leavesBlockFree_H n st v1 v2 = some r → W p l e (headSpec ws_F_leavesBlockFree rm_F_leavesBlockFree).room s m args below meth c s.heap [] 0 0 (MQ below (vp_Si (fun z => r = z)) args s 0 0 (fun _ => False)) (F0 m 15 ls [])) := by
    intro n
    induction n with
    | zero =>
      exact (by intro ls v1 v2 hl hF; have hF : (none : Option (Int32)) = _ := hF; cases hF)
    | succ n ih =>
      have hrec0 := ih
      intro ls v1 v2 hl hF
      have hF : (if (4 : Int32) ≤ v2 then (if ¬ ((0 : Int32) = 0 ∨ (0 : Int32) = 1) then none else some (0 : Int32)) else ((f_F_blockOf v1).bind fun r22 => if v2 = r22 then (f_F_leavesBlockFree_J38 (f_F_leavesBlockFree_H n) st v1 v2) else ((f_F_isWholeFree st v2).bind fun r30 => if r30 = 0 then (f_F_leavesBlockFree_J38 (f_F_leavesBlockFree_H n) st v1 v2) else (if ¬ ((1 : Int32) = 0 ∨ (1 : Int32) = 1) then none else some (1 : Int32))))) = some r := hF
      refine lv_iload_n hx hb d_F_leavesBlockFree_15 rfl (lv_at hl 2 rfl) ?_
      refine lv_iconst (v := (4 : Int32)) hx hb d_F_leavesBlockFree_16 (by decide) ?_
      refine lv_icmp_ge hx hb d_F_leavesBlockFree_17 (tgt := 44) (by decide) (fun h17 => ?_) (fun h17 => ?_)
      · have hF := tx_t h17 hF
        refine lv_iconst (v := (0 : Int32)) hx hb d_F_leavesBlockFree_44 (by decide) ?_
        obtain ⟨hz, hF⟩ := tx_g hF
        have hz := Classical.not_not.mp hz
        exact W.zret hx hb hr (tx_z hz) (fun t ht hW => ⟨_, rfl, (Option.some.inj hF).symm, ht⟩) (fun q h => by cases h) d_F_leavesBlockFree_45
      · have hF := tx_f h17 hF
        refine lv_iload_n hx hb d_F_leavesBlockFree_20 rfl (lv_at hl 2 rfl) ?_
        refine lv_iload_n hx hb d_F_leavesBlockFree_21 rfl (lv_at hl 1 rfl) ?_
        obtain ⟨r22, hc22, hF⟩ := tx_b hF
        refine vp_callSi (W.runS (As := [.int v1]) (rest := [.int v2]) ⟨hx, hb, hml, hown, hts⟩ (c_F_blockOf l v1 r22 hc22) (va_cwS 1 hts (tg_S bq_2_23 bq_2_24 bq_1_1 bq_2_25) rfl rfl rfl (by decide +kernel) ⟨Nat.le_of_ble_eq_true rfl, Nat.le_of_ble_eq_true rfl⟩) ⟨tx_bl0, tx_pre0⟩ rfl rfl hl.1 rfl (lv_room (Nat.le_of_ble_eq_true rfl)) d_F_leavesBlockFree_22 ⟨Nat.zero_le _, Nat.zero_le _⟩) (fun zz hz => ?_)
        subst hz
        refine lv_icmp_eq hx hb d_F_leavesBlockFree_25 (tgt := 38) (by decide) (fun h25 => ?_) (fun h25 => ?_)
        · have hF := tx_t h25 hF
          exact J38 _ hrec0 _ v1 v2 hl hF
        · have hF := tx_f h25 hF
          refine lv_aload_n hx hb d_F_leavesBlockFree_28 rfl (lv_at hl 0 rfl) ?_
          refine lv_iload_n hx hb d_F_leavesBlockFree_29 rfl (lv_at hl 2 rfl) ?_
          obtain ⟨r30, hc30, hF⟩ := tx_b hF
          refine vp_callSi (W.runV (As := [.int v2]) (rest := []) ⟨hx, hb, hml, hown, hts⟩ (c_F_isWholeFree l dC dI cA h0 q1 q2 q3 q4 q5 q6 st pl tk wd er nx md v2 r30 hc30) (cwV 1 hts (tg_V bq_2_26 bq_2_28 bq_s_7 bq_1_1 bq_2_29) rfl rfl rfl (by decide +kernel) ⟨Nat.le_of_ble_eq_true rfl, Nat.le_of_ble_eq_true rfl⟩) ⟨tx_blR, (va_recv (ci := 1) (q0 := 0) hK hP rfl rfl), tx_preR (hP) hK⟩ rfl rfl hl.1 rfl (lv_room (Nat.le_of_ble_eq_true rfl)) d_F_leavesBlockFree_30 ⟨Nat.zero_le _, Nat.zero_le _⟩) (fun zz hz => ?_)
          subst hz
          refine lv_if_eq hx hb d_F_leavesBlockFree_33 (tgt := 38) (by decide) (fun h33 => ?_) (fun h33 => ?_)
          · have hF := tx_t h33 hF
            exact J38 _ hrec0 _ v1 v2 hl hF
          · have hF := tx_f h33 hF
            refine lv_iconst (v := (1 : Int32)) hx hb d_F_leavesBlockFree_36 (by decide) ?_
            obtain ⟨hz, hF⟩ := tx_g hF
            have hz := Classical.not_not.mp hz
            exact W.zret hx hb hr (tx_z hz) (fun t ht hW => ⟨_, rfl, (Option.some.inj hF).symm, ht⟩) (fun q h => by cases h) d_F_leavesBlockFree_37
  obtain hrec0 := LH 100
  have hF : ((f_F_freePlace st (-1 : Int32)).bind fun r2 => if r2 = (-1 : Int32) then (if ¬ ((0 : Int32) = 0 ∨ (0 : Int32) = 1) then none else some (0 : Int32)) else (f_F_leavesBlockFree_H 100 st r2 (0 : Int32))) = some r := hF
  refine lv_aload_n hx hb d_F_leavesBlockFree_0 rfl (lv_at hl 0 rfl) ?_
  refine lv_iconst (v := (-1 : Int32)) hx hb d_F_leavesBlockFree_1 (by decide) ?_
  obtain ⟨r2, hc2, hF⟩ := tx_b hF
  refine vp_callSi (W.runV (As := [.int (-1 : Int32)]) (rest := []) ⟨hx, hb, hml, hown, hts⟩ (c_F_freePlace l dC dI cA h0 q1 q2 q3 q4 q5 q6 st pl tk wd er nx md (-1 : Int32) r2 hc2) (cwV 1 hts (tg_V bq_2_19 bq_2_21 bq_s_6 bq_1_1 bq_2_22) rfl rfl rfl (by decide +kernel) ⟨Nat.le_of_ble_eq_true rfl, Nat.le_of_ble_eq_true rfl⟩) ⟨tx_blR, (va_recv (ci := 1) (q0 := 0) hK hP rfl rfl), tx_preR (hP) hK⟩ rfl rfl hl.1 rfl (lv_room (Nat.le_of_ble_eq_true rfl)) d_F_leavesBlockFree_2 ⟨Nat.zero_le _, Nat.zero_le _⟩) (fun zz hz => ?_)
  subst hz
  refine lv_istore_n hx hb d_F_leavesBlockFree_5 rfl hl (by decide) rfl (fun ls hl => ?_)
  have hl : lv_has ls 3 [(1, .int r2), (0, .ref h0)] := hl
  refine lv_iload_n hx hb d_F_leavesBlockFree_6 rfl (lv_at hl 0 rfl) ?_
  refine lv_iconst (v := (-1 : Int32)) hx hb d_F_leavesBlockFree_7 (by decide) ?_
  refine lv_icmp_ne hx hb d_F_leavesBlockFree_8 (tgt := 13) (by decide) (fun h8 => ?_) (fun h8 => ?_)
  · have hF := tx_f h8 hF
    refine lv_iconst (v := (0 : Int32)) hx hb d_F_leavesBlockFree_13 (by decide) ?_
    refine lv_istore_n hx hb d_F_leavesBlockFree_14 rfl hl (by decide) rfl (fun ls hl => ?_)
    have hl : lv_has ls 3 [(2, .int (0 : Int32)), (1, .int r2), (0, .ref h0)] := hl
    exact hrec0 _ r2 (0 : Int32) (lv_sub hl [2, 1, 0] rfl) hF
  · have hF := tx_t h8 hF
    refine lv_iconst (v := (0 : Int32)) hx hb d_F_leavesBlockFree_11 (by decide) ?_
    obtain ⟨hz, hF⟩ := tx_g hF
    have hz := Classical.not_not.mp hz
    exact W.zret hx hb hr (tx_z hz) (fun t ht hW => ⟨_, rfl, (Option.some.inj hF).symm, ht⟩) (fun q h => by cases h) d_F_leavesBlockFree_12
abbrev rm_F_put : Room := { frames := 4, cells := 0, slots := 0, locals := 90 }
set_option maxHeartbeats 4000000 in
set_option maxRecDepth 100000 in
theorem c_F_put (l : Launch) (dC : Nat → ClassId) (dI : Nat → Nat → Nat) (cA : ClassId) (h0 q1 q2 q3 q4 q5 q6 sz : Nat) (st pl tk wd er : Nat → Int32) (nx md : Int32) (a1 : Int32) (a2 : Int64) (a3 : Int32) (st' : Nat → Int32) (pl' : Nat → Int32) (wd' : Nat → Int32) (nx' : Int32) (hF : f_F_put st pl wd nx a1 a2 a3 = some (st', pl', wd', nx')) : Met l y_F_put ws_F_put rm_F_put (tx_PW [.ref h0, .int a1, .long a2, .int a3] (dC, dI) [(cA, .int)] (wF cA h0 q1 q2 q3 q4 q5 q6 st pl tk wd er nx md) sz) (va_Qv (S := Unit) (fun _ => True) (fun _ t => va_P (dC, dI) vwCl (wF cA h0 q1 q2 q3 q4 q5 q6 (st') (pl') tk (wd') er (nx') md) t.heap ∧ va_D (va_A (wF cA h0 q1 q2 q3 q4 q5 q6 st pl tk wd er nx md) sz) (wF cA h0 q1 q2 q3 q4 q5 q6 (st') (pl') tk (wd') er (nx') md)) (va_A (wF cA h0 q1 q2 q3 q4 q5 q6 st pl tk wd er nx md) sz)) 0 0 (va_A (wF cA h0 q1 q2 q3 q4 q5 q6 st pl tk wd er nx md) sz) := by
  refine Met.ofW (cc := b_F_put) (maxL := 6) (ret := none) (by decide +kernel) rfl ?_
  intro p e s m args below meth c s₁ B hml hv
  obtain ⟨hargs, hsz, hP, hK, hD0, hNw⟩ := hv
  have hx := B.exec
  have hb := B.bytes
  have hr := B.returns
  have hts := atoms_spec (ws := ws_F_put) B.pre
  have hown : s.vm.findClass "FlashStore" = some m.cls := findClass_of_methodNamed B.named
  have hlocks := B.notSynchronized
  subst hsz
  have hD := hD0.self (sz := s.heap.size)
  generalize hAe : va_A (wF cA h0 q1 q2 q3 q4 q5 q6 st pl tk wd er nx md) s.heap.size = A at hD ⊢
  have hA : ∀ q : Nat, s.heap.size ≤ q → A q := fun q h => by rw [← hAe]; exact Or.inr h
  have hS : va_S A s.heap s.heap [] := va_S.rf
  have hP : va_P (dC, dI) vwCl (wF cA h0 q1 q2 q3 q4 q5 q6 st pl tk wd er nx md) s.heap := hP
  have w0 := (hts _ (List.mem_cons_of_mem _ bq_1_41))
  have w1 := (hts _ (List.mem_cons_of_mem _ bq_1_45))
  have hl := lv_entry ([.ref h0, .int a1, .long a2, .int a3]) (n := 6) (Nat.le_of_ble_eq_true rfl)
  have hen : entryFrame m args 6 = _ := (congrArg (fun z => entryFrame m z 6) hargs).trans (lg_entry_eq m ([.ref h0, .int a1, .long a2, .int a3]) 6)
  refine W.eq hen ?_
  clear hen
  generalize (lg_sl ([.ref h0, .int a1, .long a2, .int a3]) ++ List.replicate (6 - (lg_sl ([.ref h0, .int a1, .long a2, .int a3])).length) Slot.unset).toArray = ls at hl ⊢
  have hl : lv_has ls 6 [(0, .ref h0), (1, .int a1), (2, .long a2), (4, .int a3)] := hl
  have hF : ((f_F_freePlace st a3).bind fun r3 => if r3 = (-1 : Int32) then (some (st, pl, wd, nx)) else ((f_M_program wd r3 a2 ((a1 <<< ((12 : Int32) &&& 31)) ||| nx)).bind fun wd31 => (f_F_serialBehind nx).bind fun r39 => (f_F_forget st pl a1).bind fun (st47, pl47) => (f_F_hold st47 pl47 a1 r3).bind fun (st54, pl54) => some (st54, pl54, wd31, r39))) = some (st', pl', wd', nx') := hF
  refine lv_aload_n hx hb d_F_put_0 rfl (lv_at hl 0 rfl) ?_
  refine lv_iload hx hb d_F_put_1 (lv_at hl 3 rfl) ?_
  obtain ⟨r3, hc3, hF⟩ := tx_b hF
  refine vp_callSi (W.runV (As := [.int a3]) (rest := []) ⟨hx, hb, hml, hown, hts⟩ (c_F_freePlace l dC dI cA h0 q1 q2 q3 q4 q5 q6 st pl tk wd er nx md a3 r3 hc3) (cwV 1 hts (tg_V bq_2_19 bq_2_21 bq_s_6 bq_1_1 bq_2_22) rfl rfl rfl (by decide +kernel) ⟨Nat.le_of_ble_eq_true rfl, Nat.le_of_ble_eq_true rfl⟩) ⟨tx_blR, (va_recv (ci := 1) (q0 := 0) hK hP rfl rfl), tx_preR (hP) hK⟩ rfl rfl hl.1 rfl (lv_room (Nat.le_of_ble_eq_true rfl)) d_F_put_3 ⟨Nat.zero_le _, Nat.zero_le _⟩) (fun zz hz => ?_)
  subst hz
  refine lv_istore hx hb d_F_put_6 hl (by decide) rfl (fun ls hl => ?_)
  have hl : lv_has ls 6 [(5, .int r3), (0, .ref h0), (1, .int a1), (2, .long a2), (4, .int a3)] := hl
  refine lv_iload hx hb d_F_put_8 (lv_at hl 0 rfl) ?_
  refine lv_iconst (v := (-1 : Int32)) hx hb d_F_put_10 (by decide) ?_
  refine lv_icmp_ne hx hb d_F_put_11 (tgt := 15) (by decide) (fun h11 => ?_) (fun h11 => ?_)
  · have hF := tx_f h11 hF
    refine lv_aload_n hx hb d_F_put_15 rfl (lv_at hl 1 rfl) ?_
    refine va_get (D := (dC, dI)) (ci := 1) (v := .ref q1) (C := "FlashStore") (T := TF) (N := 6) hx hb hts inTF hown hK hP 0 rfl rfl 0 (by decide) w0 (fun _ h9 => h9) rfl d_F_put_16 ?_
    refine lv_iload hx hb d_F_put_19 (lv_at hl 0 rfl) ?_
    refine lv_lload_n hx hb d_F_put_21 rfl (lv_at hl 3 rfl) ?_
    refine lv_iload_n hx hb d_F_put_22 rfl (lv_at hl 2 rfl) ?_
    refine lv_bipush (v := (12 : Int32)) hx hb d_F_put_23 (by decide) ?_
    refine lv_ishl hx hb d_F_put_25 ?_
    refine lv_aload_n hx hb d_F_put_26 rfl (lv_at hl 1 rfl) ?_
    refine va_get (D := (dC, dI)) (ci := 1) (v := .int nx) (C := "FlashStore") (T := TF) (N := 6) hx hb hts inTF hown hK hP 0 rfl rfl 4 (by decide) w1 (fun _ h9 => h9) rfl d_F_put_27 ?_
    refine lv_ior hx hb d_F_put_30 ?_
    obtain ⟨wd31, hc31, hF⟩ := tx_b hF
    have hPc := hP.sub (ws' := (wM cA q1 q5 q6 wd er)) [1, 5, 6] rfl
    have hDc := hD.sub (ws' := (wM cA q1 q5 q6 wd er)) [1, 5, 6] (by decide) rfl
    have hFc := va_free (wc := (wM cA q1 q5 q6 wd er)) hD hS hA [1, 5, 6] rfl
    refine va_callv (va_runV (As := [.int r3, .long a2, .int ((a1 <<< ((12 : Int32) &&& 31)) ||| nx)]) (rest := []) ⟨hx, hb, hml, hown, hts⟩ (c_M_program l dC dI cA q1 q5 q6 s.heap.size wd er r3 a2 ((a1 <<< ((12 : Int32) &&& 31)) ||| nx) wd31 hc31) (cwV 3 hts (tg_V bq_2_97 bq_2_98 bq_2_99 bq_1_2 bq_2_100) rfl rfl rfl (by decide +kernel) ⟨Nat.le_of_ble_eq_true rfl, Nat.le_of_ble_eq_true rfl⟩) ⟨tx_blW, (va_recv (ci := 0) (q0 := 1) hK hP rfl rfl), tx_preW hPc hDc hK hNw⟩ rfl rfl hl.1 rfl (lv_room (Nat.le_of_ble_eq_true rfl)) d_F_put_31 ⟨Nat.zero_le _, Nat.zero_le _⟩) hS (fun q _ h => hFc q h) hFc (fun _u t H locs ht hvm hw hB hz1 hk1 hS => ?_)
    obtain ⟨hP1, hD1⟩ := hB
    rw [ht] at hP1
    obtain ⟨hP2, hD2⟩ := va_join (wr := [(h0, .inr (1, [.ref q1, .ref q2, .ref q3, .ref q4, .int nx, .int md])), (q2, .inl (cA, 16, .inl st)), (q3, .inl (cA, 8, .inl pl)), (q4, .inl (cA, 8, .inl tk))]) (w1 := (wM cA q1 q5 q6 wd31 er)) hP hD [1, 5, 6] [0, 2, 3, 4] rfl rfl (by decide) (by decide) hk1 hFc hP1 hD1
    have hP := hP2.sub (ws' := (wF cA h0 q1 q2 q3 q4 q5 q6 st pl tk wd31 er nx md)) [0, 4, 1, 2, 3, 5, 6] rfl
    have hD := hD2.sub (ws' := (wF cA h0 q1 q2 q3 q4 q5 q6 st pl tk wd31 er nx md)) [0, 4, 1, 2, 3, 5, 6] (by decide) rfl
    refine lv_aload_n hx hb d_F_put_34 rfl (lv_at hl 1 rfl) ?_
    refine lv_aload_n hx hb d_F_put_35 rfl (lv_at hl 1 rfl) ?_
    refine va_get (D := (dC, dI)) (ci := 1) (v := .int nx) (C := "FlashStore") (T := TF) (N := 6) hx hb hts inTF hown hK hP 0 rfl rfl 4 (by decide) w1 (fun _ h9 => h9) rfl d_F_put_36 ?_
    obtain ⟨r39, hc39, hF⟩ := tx_b hF
    refine vp_callSi (W.runS (As := [.int nx]) (rest := [.ref h0]) ⟨hx, hb, hml, hown, hts⟩ (c_F_serialBehind l nx r39 hc39) (va_cwS 1 hts (tg_S bq_1_125 bq_1_126 bq_1_1 bq_1_127) rfl rfl rfl (by decide +kernel) ⟨Nat.le_of_ble_eq_true rfl, Nat.le_of_ble_eq_true rfl⟩) ⟨tx_bl0, tx_pre0⟩ rfl rfl hl.1 rfl (lv_room (Nat.le_of_ble_eq_true rfl)) d_F_put_39 ⟨Nat.zero_le _, Nat.zero_le _⟩) (fun zz hz => ?_)
    subst hz
    refine va_put (D := (dC, dI)) (ci := 1) (v := .int r39) (ty := .int) (C := "FlashStore") (T := TF) (N := 6) hx hb hts inTF tyTF tyTF_ok nmTF hown hK hP hD hS 0 rfl rfl 4 (by decide) w1 (fun _ h9 => h9) rfl (by decide +kernel) rfl rfl (Nat.le_of_ble_eq_true rfl) d_F_put_42 (fun H locs hP hD hS => ?_)
    have hP : va_P (dC, dI) vwCl (wF cA h0 q1 q2 q3 q4 q5 q6 st pl tk wd31 er r39 md) H := hP
    have hD : va_D A (wF cA h0 q1 q2 q3 q4 q5 q6 st pl tk wd31 er r39 md) := hD
    refine lv_aload_n hx hb d_F_put_45 rfl (lv_at hl 1 rfl) ?_
    refine lv_iload_n hx hb d_F_put_46 rfl (lv_at hl 2 rfl) ?_
    obtain ⟨⟨st47, pl47⟩, hc47, hF⟩ := tx_b hF
    try dsimp only at hF
    have hPc := hP.sub (ws' := (wF cA h0 q1 q2 q3 q4 q5 q6 st pl tk wd31 er r39 md)) [0, 1, 2, 3, 4, 5, 6] rfl
    have hDc := hD.sub (ws' := (wF cA h0 q1 q2 q3 q4 q5 q6 st pl tk wd31 er r39 md)) [0, 1, 2, 3, 4, 5, 6] (by decide) rfl
    have hFc := va_free (wc := (wF cA h0 q1 q2 q3 q4 q5 q6 st pl tk wd31 er r39 md)) hD hS hA [0, 1, 2, 3, 4, 5, 6] rfl
    refine va_callv (va_runV (As := [.int a1]) (rest := []) ⟨hx, hb, hml, hown, hts⟩ (c_F_forget l dC dI cA h0 q1 q2 q3 q4 q5 q6 H.size st pl tk wd31 er r39 md a1 st47 pl47 hc47) (cwV 1 hts (tg_V bq_1_117 bq_1_119 bq_s_1 bq_1_1 bq_1_120) rfl rfl rfl (by decide +kernel) ⟨Nat.le_of_ble_eq_true rfl, Nat.le_of_ble_eq_true rfl⟩) ⟨tx_blW, (va_recv (ci := 1) (q0 := 0) hK hP rfl rfl), tx_preW hPc hDc hK hNw⟩ rfl rfl hl.1 rfl (lv_room (Nat.le_of_ble_eq_true rfl)) d_F_put_47 ⟨Nat.zero_le _, Nat.zero_le _⟩) hS (fun q _ h => hFc q h) hFc (fun _u t H locs ht hvm hw hB hz1 hk1 hS => ?_)
    obtain ⟨hP1, hD1⟩ := hB
    rw [ht] at hP1
    obtain ⟨hP2, hD2⟩ := va_join (wr := []) (w1 := (wF cA h0 q1 q2 q3 q4 q5 q6 st47 pl47 tk wd31 er r39 md)) hP hD [0, 1, 2, 3, 4, 5, 6] [] rfl rfl (by decide) (by decide) hk1 hFc hP1 hD1
    have hP := hP2.sub (ws' := (wF cA h0 q1 q2 q3 q4 q5 q6 st47 pl47 tk wd31 er r39 md)) [0, 1, 2, 3, 4, 5, 6] rfl
    have hD := hD2.sub (ws' := (wF cA h0 q1 q2 q3 q4 q5 q6 st47 pl47 tk wd31 er r39 md)) [0, 1, 2, 3, 4, 5, 6] (by decide) rfl
    refine lv_aload_n hx hb d_F_put_50 rfl (lv_at hl 1 rfl) ?_
    refine lv_iload_n hx hb d_F_put_51 rfl (lv_at hl 2 rfl) ?_
    refine lv_iload hx hb d_F_put_52 (lv_at hl 0 rfl) ?_
    obtain ⟨⟨st54, pl54⟩, hc54, hF⟩ := tx_b hF
    try dsimp only at hF
    have hPc := hP.sub (ws' := (wF cA h0 q1 q2 q3 q4 q5 q6 st47 pl47 tk wd31 er r39 md)) [0, 1, 2, 3, 4, 5, 6] rfl
    have hDc := hD.sub (ws' := (wF cA h0 q1 q2 q3 q4 q5 q6 st47 pl47 tk wd31 er r39 md)) [0, 1, 2, 3, 4, 5, 6] (by decide) rfl
    have hFc := va_free (wc := (wF cA h0 q1 q2 q3 q4 q5 q6 st47 pl47 tk wd31 er r39 md)) hD hS hA [0, 1, 2, 3, 4, 5, 6] rfl
    refine va_callv (va_runV (As := [.int a1, .int r3]) (rest := []) ⟨hx, hb, hml, hown, hts⟩ (c_F_hold l dC dI cA h0 q1 q2 q3 q4 q5 q6 H.size st47 pl47 tk wd31 er r39 md a1 r3 st54 pl54 hc54) (cwV 2 hts (tg_V bq_1_121 bq_1_123 bq_s_2 bq_1_1 bq_1_124) rfl rfl rfl (by decide +kernel) ⟨Nat.le_of_ble_eq_true rfl, Nat.le_of_ble_eq_true rfl⟩) ⟨tx_blW, (va_recv (ci := 1) (q0 := 0) hK hP rfl rfl), tx_preW hPc hDc hK hNw⟩ rfl rfl hl.1 rfl (lv_room (Nat.le_of_ble_eq_true rfl)) d_F_put_54 ⟨Nat.zero_le _, Nat.zero_le _⟩) hS (fun q _ h => hFc q h) hFc (fun _u t H locs ht hvm hw hB hz1 hk1 hS => ?_)
    obtain ⟨hP1, hD1⟩ := hB
    rw [ht] at hP1
    obtain ⟨hP2, hD2⟩ := va_join (wr := []) (w1 := (wF cA h0 q1 q2 q3 q4 q5 q6 st54 pl54 tk wd31 er r39 md)) hP hD [0, 1, 2, 3, 4, 5, 6] [] rfl rfl (by decide) (by decide) hk1 hFc hP1 hD1
    have hP := hP2.sub (ws' := (wF cA h0 q1 q2 q3 q4 q5 q6 st54 pl54 tk wd31 er r39 md)) [0, 1, 2, 3, 4, 5, 6] rfl
    have hD := hD2.sub (ws' := (wF cA h0 q1 q2 q3 q4 q5 q6 st54 pl54 tk wd31 er r39 md)) [0, 1, 2, 3, 4, 5, 6] (by decide) rfl
    cases hF
    exact W.vret hx hb hr (fun t ht hW => ⟨⟨(), rfl, trivial, by rw [ht]; exact hP, hD⟩, hS.F ht⟩) hS.2.2 d_F_put_57
  · have hF := tx_t h11 hF
    cases hF
    exact W.vret hx hb hr (fun t ht hW => ⟨⟨(), rfl, trivial, by rw [ht]; exact hP, hD⟩, hS.F ht⟩) hS.2.2 d_F_put_14
abbrev rm_F_countFreeOutside : Room := { frames := 2, cells := 0, slots := 0, locals := 45 }
set_option maxHeartbeats 4000000 in
set_option maxRecDepth 100000 in
theorem c_F_countFreeOutside (l : Launch) (dC : Nat → ClassId) (dI : Nat → Nat → Nat) (cA : ClassId) (h0 q1 q2 q3 q4 q5 q6 : Nat) (st pl tk wd er : Nat → Int32) (nx md : Int32) (a1 : Int32) (r : Int32)  (hF : f_F_countFreeOutside st a1 = some r) : Met l y_F_countFreeOutside ws_F_countFreeOutside rm_F_countFreeOutside (tx_PR [.ref h0, .int a1] (dC, dI) [(cA, .int)] (wF cA h0 q1 q2 q3 q4 q5 q6 st pl tk wd er nx md)) (vp_Si (fun z => r = z)) 0 0 (fun _ => False) := by
  refine Met.ofW (cc := b_F_countFreeOutside) (maxL := 4) (ret := some .int) (by decide +kernel) rfl ?_
  intro p e s m args below meth c s₁ B hml hv
  obtain ⟨hargs, hP, hK⟩ := hv
  have hx := B.exec
  have hb := B.bytes
  have hr := B.returns
  have hts := atoms_spec (ws := ws_F_countFreeOutside) B.pre
  have hown : s.vm.findClass "FlashStore" = some m.cls := findClass_of_methodNamed B.named
  have hlocks := B.notSynchronized
  have hl := lv_entry ([.ref h0, .int a1]) (n := 4) (Nat.le_of_ble_eq_true rfl)
  have hen : entryFrame m args 4 = _ := (congrArg (fun z => entryFrame m z 4) hargs).trans (lg_entry_eq m ([.ref h0, .int a1]) 4)
  refine W.eq hen ?_
  clear hen
  generalize (lg_sl ([.ref h0, .int a1]) ++ List.replicate (4 - (lg_sl ([.ref h0, .int a1])).length) Slot.unset).toArray = ls at hl ⊢
  have hl : lv_has ls 4 [(0, .ref h0), (1, .int a1)] := hl
  have J25 : ∀ (rc : (Nat → Int32) → Int32 → Int32 → Int32 → Option (Int32)) (hrec0 : ∀ (ls : Array Slot) (v1 : Int32) (v2 : Int32) (v3 : Int32), lv_has ls 4 [(0, .ref h0), (1, .int v1), (2, .int v2), (3, .int v3)] → rc st v1 v2 v3 = some r → W p l e (headSpec ws_F_countFreeOutside rm_F_countFreeOutside).room s m args below meth c s.heap [] 0 0 (MQ below (vp_Si (fun z => r = z)) args s 0 0 (fun _ => False)) (F0 m 4 ls [])), ∀ (ls : Array Slot) (v1 : Int32) (v3 : Int32) (z0 : Int32) (z1 : Int32), lv_has ls 4 [(0, .ref h0), (1, .int v1), (3, .int v3)] → f_F_countFreeOutside_J25 rc st v1 v3 z0 z1 = some r → W p l e (headSpec ws_F_countFreeOutside rm_F_countFreeOutside).room s m args below meth c s.heap [] 0 0 (MQ below (vp_Si (fun z => r = z)) args s 0 0 (fun _ => False)) (F0 m 25 ls [.int z0, .int z1]) := by
    intro rc hrec0
    intro ls v1 v3 z0 z1 hl hF
    have hF : (rc st v1 (z1 + z0) (v3 + (1 : Int32))) = some r := hF
    refine lv_iadd hx hb d_F_countFreeOutside_25 ?_
    refine lv_istore_n hx hb d_F_countFreeOutside_26 rfl hl (by decide) rfl (fun ls hl => ?_)
    have hl : lv_has ls 4 [(2, .int (z1 + z0)), (0, .ref h0), (1, .int v1), (3, .int v3)] := hl
    refine lv_iinc (k := 3) (v := (v3 + (1 : Int32))) hx hb d_F_countFreeOutside_27 hl rfl rfl (by decide) rfl (fun ls hl => ?_)
    have hl : lv_has ls 4 [(3, .int (v3 + (1 : Int32))), (2, .int (z1 + z0)), (0, .ref h0), (1, .int v1)] := hl
    refine lv_goto hx hb d_F_countFreeOutside_30 (tgt := 4) (by decide) ?_
    exact hrec0 _ v1 (z1 + z0) (v3 + (1 : Int32)) (lv_sub hl [2, 3, 1, 0] rfl) hF
  have LH : ∀ n : Nat, (∀ (ls : Array Slot) (v1 : Int32) (v2 : Int32) (v3 : Int32), lv_has ls 4 [(0, .ref h0), (1, .int v1), (2, .int v2), (3, .int v3)] → f_F_countFreeOutside_H n st v1 v2 v3 = some r → W p l e (headSpec ws_F_countFreeOutside rm_F_countFreeOutside).room s m args below meth c s.heap [] 0 0 (MQ below (vp_Si (fun z => r = z)) args s 0 0 (fun _ => False)) (F0 m 4 ls [])) := by
    intro n
    induction n with
    | zero =>
      exact (by intro ls v1 v2 v3 hl hF; have hF : (none : Option (Int32)) = _ := hF; cases hF)
    | succ n ih =>
      have hrec0 := ih
      intro ls v1 v2 v3 hl hF
      have hF : (if (4 : Int32) ≤ v3 then (some v2) else (if v3 = v1 then (f_F_countFreeOutside_J25 (f_F_countFreeOutside_H n) st v1 v3 (0 : Int32) v2) else ((f_F_countInBlock st v3 (0 : Int32)).bind fun r18 => f_F_countFreeOutside_J25 (f_F_countFreeOutside_H n) st v1 v3 r18 v2))) = some r := hF
      refine lv_iload_n hx hb d_F_countFreeOutside_4 rfl (lv_at hl 3 rfl) ?_
      refine lv_iconst (v := (4 : Int32)) hx hb d_F_countFreeOutside_5 (by decide) ?_
      refine lv_icmp_ge hx hb d_F_countFreeOutside_6 (tgt := 33) (by decide) (fun h6 => ?_) (fun h6 => ?_)
      · have hF := tx_t h6 hF
        refine lv_iload_n hx hb d_F_countFreeOutside_33 rfl (lv_at hl 2 rfl) ?_
        exact W.iret hx hb hr (fun t ht hW => ⟨_, rfl, (Option.some.inj hF).symm, ht⟩) (fun q h => by cases h) d_F_countFreeOutside_34
      · have hF := tx_f h6 hF
        refine lv_iload_n hx hb d_F_countFreeOutside_9 rfl (lv_at hl 2 rfl) ?_
        refine lv_iload_n hx hb d_F_countFreeOutside_10 rfl (lv_at hl 3 rfl) ?_
        refine lv_iload_n hx hb d_F_countFreeOutside_11 rfl (lv_at hl 1 rfl) ?_
        refine lv_icmp_eq hx hb d_F_countFreeOutside_12 (tgt := 24) (by decide) (fun h12 => ?_) (fun h12 => ?_)
        · have hF := tx_t h12 hF
          refine lv_iconst (v := (0 : Int32)) hx hb d_F_countFreeOutside_24 (by decide) ?_
          exact J25 _ hrec0 _ v1 v3 (0 : Int32) v2 (lv_sub hl [0, 1, 3] rfl) hF
        · have hF := tx_f h12 hF
          refine lv_aload_n hx hb d_F_countFreeOutside_15 rfl (lv_at hl 0 rfl) ?_
          refine lv_iload_n hx hb d_F_countFreeOutside_16 rfl (lv_at hl 3 rfl) ?_
          refine lv_iconst (v := (0 : Int32)) hx hb d_F_countFreeOutside_17 (by decide) ?_
          obtain ⟨r18, hc18, hF⟩ := tx_b hF
          refine vp_callSi (W.runV (As := [.int v3, .int (0 : Int32)]) (rest := [.int v2]) ⟨hx, hb, hml, hown, hts⟩ (c_F_countInBlock l dC dI cA h0 q1 q2 q3 q4 q5 q6 st pl tk wd er nx md v3 (0 : Int32) r18 hc18) (cwV 2 hts (tg_V bq_2_30 bq_2_32 bq_s_8 bq_1_1 bq_2_33) rfl rfl rfl (by decide +kernel) ⟨Nat.le_of_ble_eq_true rfl, Nat.le_of_ble_eq_true rfl⟩) ⟨tx_blR, (va_recv (ci := 1) (q0 := 0) hK hP rfl rfl), tx_preR (hP) hK⟩ rfl rfl hl.1 rfl (lv_room (Nat.le_of_ble_eq_true rfl)) d_F_countFreeOutside_18 ⟨Nat.zero_le _, Nat.zero_le _⟩) (fun zz hz => ?_)
          subst hz
          refine lv_goto hx hb d_F_countFreeOutside_21 (tgt := 25) (by decide) ?_
          exact J25 _ hrec0 _ v1 v3 r18 v2 (lv_sub hl [0, 1, 3] rfl) hF
  obtain hrec0 := LH 100
  have hF : (f_F_countFreeOutside_H 100 st a1 (0 : Int32) (0 : Int32)) = some r := hF
  refine lv_iconst (v := (0 : Int32)) hx hb d_F_countFreeOutside_0 (by decide) ?_
  refine lv_istore_n hx hb d_F_countFreeOutside_1 rfl hl (by decide) rfl (fun ls hl => ?_)
  have hl : lv_has ls 4 [(2, .int (0 : Int32)), (0, .ref h0), (1, .int a1)] := hl
  refine lv_iconst (v := (0 : Int32)) hx hb d_F_countFreeOutside_2 (by decide) ?_
  refine lv_istore_n hx hb d_F_countFreeOutside_3 rfl hl (by decide) rfl (fun ls hl => ?_)
  have hl : lv_has ls 4 [(3, .int (0 : Int32)), (2, .int (0 : Int32)), (0, .ref h0), (1, .int a1)] := hl
  exact hrec0 _ a1 (0 : Int32) (0 : Int32) (lv_sub hl [2, 3, 1, 0] rfl) hF
abbrev rm_F_canBeCleaned : Room := { frames := 3, cells := 0, slots := 0, locals := 68 }
set_option maxHeartbeats 4000000 in
set_option maxRecDepth 100000 in
theorem c_F_canBeCleaned (l : Launch) (dC : Nat → ClassId) (dI : Nat → Nat → Nat) (cA : ClassId) (h0 q1 q2 q3 q4 q5 q6 : Nat) (st pl tk wd er : Nat → Int32) (nx md : Int32) (a1 : Int32) (r : Int32)  (hF : f_F_canBeCleaned st a1 = some r) : Met l y_F_canBeCleaned ws_F_canBeCleaned rm_F_canBeCleaned (tx_PR [.ref h0, .int a1] (dC, dI) [(cA, .int)] (wF cA h0 q1 q2 q3 q4 q5 q6 st pl tk wd er nx md)) (vp_Si (fun z => r = z)) 0 0 (fun _ => False) := by
  refine Met.ofW (cc := b_F_canBeCleaned) (maxL := 3) (ret := some .boolean) (by decide +kernel) rfl ?_
  intro p e s m args below meth c s₁ B hml hv
  obtain ⟨hargs, hP, hK⟩ := hv
  have hx := B.exec
  have hb := B.bytes
  have hr := B.returns
  have hts := atoms_spec (ws := ws_F_canBeCleaned) B.pre
  have hown : s.vm.findClass "FlashStore" = some m.cls := findClass_of_methodNamed B.named
  have hlocks := B.notSynchronized
  have hl := lv_entry ([.ref h0, .int a1]) (n := 3) (Nat.le_of_ble_eq_true rfl)
  have hen : entryFrame m args 3 = _ := (congrArg (fun z => entryFrame m z 3) hargs).trans (lg_entry_eq m ([.ref h0, .int a1]) 3)
  refine W.eq hen ?_
  clear hen
  generalize (lg_sl ([.ref h0, .int a1]) ++ List.replicate (3 - (lg_sl ([.ref h0, .int a1])).length) Slot.unset).toArray = ls at hl ⊢
  have hl : lv_has ls 3 [(0, .ref h0), (1, .int a1)] := hl
  have J34 : ∀ (ls : Array Slot) (z0 : Int32), lv_has ls 3 [] → f_F_canBeCleaned_J34 st z0 = some r → W p l e (headSpec ws_F_canBeCleaned rm_F_canBeCleaned).room s m args below meth c s.heap [] 0 0 (MQ below (vp_Si (fun z => r = z)) args s 0 0 (fun _ => False)) (F0 m 34 ls [.int z0]) := by
    intro ls z0 hl hF
    have hF : (if ¬ (z0 = 0 ∨ z0 = 1) then none else some z0) = some r := hF
    obtain ⟨hz, hF⟩ := tx_g hF
    have hz := Classical.not_not.mp hz
    exact W.zret hx hb hr (tx_z hz) (fun t ht hW => ⟨_, rfl, (Option.some.inj hF).symm, ht⟩) (fun q h => by cases h) d_F_canBeCleaned_34
  have J33 : ∀ (ls : Array Slot), lv_has ls 3 [] → f_F_canBeCleaned_J33 st = some r → W p l e (headSpec ws_F_canBeCleaned rm_F_canBeCleaned).room s m args below meth c s.heap [] 0 0 (MQ below (vp_Si (fun z => r = z)) args s 0 0 (fun _ => False)) (F0 m 33 ls []) := by
    intro ls hl hF
    have hF : (f_F_canBeCleaned_J34 st (0 : Int32)) = some r := hF
    refine lv_iconst (v := (0 : Int32)) hx hb d_F_canBeCleaned_33 (by decide) ?_
    exact J34 _ (0 : Int32) hl hF
  have hF : ((f_F_countInBlock st a1 (1 : Int32)).bind fun r3 => (f_F_isWholeFree st a1).bind fun r9 => if r9 = 0 then (if (4 : Int32) ≤ r3 then (f_F_canBeCleaned_J33 st) else ((f_F_countFreeOutside st a1).bind fun r23 => if r23 < r3 then (f_F_canBeCleaned_J33 st) else (f_F_canBeCleaned_J34 st (1 : Int32)))) else (f_F_canBeCleaned_J33 st)) = some r := hF
  refine lv_aload_n hx hb d_F_canBeCleaned_0 rfl (lv_at hl 0 rfl) ?_
  refine lv_iload_n hx hb d_F_canBeCleaned_1 rfl (lv_at hl 1 rfl) ?_
  refine lv_iconst (v := (1 : Int32)) hx hb d_F_canBeCleaned_2 (by decide) ?_
  obtain ⟨r3, hc3, hF⟩ := tx_b hF
  refine vp_callSi (W.runV (As := [.int a1, .int (1 : Int32)]) (rest := []) ⟨hx, hb, hml, hown, hts⟩ (c_F_countInBlock l dC dI cA h0 q1 q2 q3 q4 q5 q6 st pl tk wd er nx md a1 (1 : Int32) r3 hc3) (cwV 2 hts (tg_V bq_2_30 bq_2_32 bq_s_8 bq_1_1 bq_2_33) rfl rfl rfl (by decide +kernel) ⟨Nat.le_of_ble_eq_true rfl, Nat.le_of_ble_eq_true rfl⟩) ⟨tx_blR, (va_recv (ci := 1) (q0 := 0) hK hP rfl rfl), tx_preR (hP) hK⟩ rfl rfl hl.1 rfl (lv_room (Nat.le_of_ble_eq_true rfl)) d_F_canBeCleaned_3 ⟨Nat.zero_le _, Nat.zero_le _⟩) (fun zz hz => ?_)
  subst hz
  refine lv_istore_n hx hb d_F_canBeCleaned_6 rfl hl (by decide) rfl (fun ls hl => ?_)
  have hl : lv_has ls 3 [(2, .int r3), (0, .ref h0), (1, .int a1)] := hl
  refine lv_aload_n hx hb d_F_canBeCleaned_7 rfl (lv_at hl 1 rfl) ?_
  refine lv_iload_n hx hb d_F_canBeCleaned_8 rfl (lv_at hl 2 rfl) ?_
  obtain ⟨r9, hc9, hF⟩ := tx_b hF
  refine vp_callSi (W.runV (As := [.int a1]) (rest := []) ⟨hx, hb, hml, hown, hts⟩ (c_F_isWholeFree l dC dI cA h0 q1 q2 q3 q4 q5 q6 st pl tk wd er nx md a1 r9 hc9) (cwV 1 hts (tg_V bq_2_26 bq_2_28 bq_s_7 bq_1_1 bq_2_29) rfl rfl rfl (by decide +kernel) ⟨Nat.le_of_ble_eq_true rfl, Nat.le_of_ble_eq_true rfl⟩) ⟨tx_blR, (va_recv (ci := 1) (q0 := 0) hK hP rfl rfl), tx_preR (hP) hK⟩ rfl rfl hl.1 rfl (lv_room (Nat.le_of_ble_eq_true rfl)) d_F_canBeCleaned_9 ⟨Nat.zero_le _, Nat.zero_le _⟩) (fun zz hz => ?_)
  subst hz
  refine lv_if_ne hx hb d_F_canBeCleaned_12 (tgt := 33) (by decide) (fun h12 => ?_) (fun h12 => ?_)
  · have hF := tx_f h12 hF
    exact J33 _ (lv_sub hl [] rfl) hF
  · have hF := tx_t h12 hF
    refine lv_iload_n hx hb d_F_canBeCleaned_15 rfl (lv_at hl 0 rfl) ?_
    refine lv_iconst (v := (4 : Int32)) hx hb d_F_canBeCleaned_16 (by decide) ?_
    refine lv_icmp_ge hx hb d_F_canBeCleaned_17 (tgt := 33) (by decide) (fun h17 => ?_) (fun h17 => ?_)
    · have hF := tx_t h17 hF
      exact J33 _ (lv_sub hl [] rfl) hF
    · have hF := tx_f h17 hF
      refine lv_iload_n hx hb d_F_canBeCleaned_20 rfl (lv_at hl 0 rfl) ?_
      refine lv_aload_n hx hb d_F_canBeCleaned_21 rfl (lv_at hl 1 rfl) ?_
      refine lv_iload_n hx hb d_F_canBeCleaned_22 rfl (lv_at hl 2 rfl) ?_
      obtain ⟨r23, hc23, hF⟩ := tx_b hF
      refine vp_callSi (W.runV (As := [.int a1]) (rest := [.int r3]) ⟨hx, hb, hml, hown, hts⟩ (c_F_countFreeOutside l dC dI cA h0 q1 q2 q3 q4 q5 q6 st pl tk wd er nx md a1 r23 hc23) (cwV 1 hts (tg_V bq_2_45 bq_2_47 bq_s_11 bq_1_1 bq_2_48) rfl rfl rfl (by decide +kernel) ⟨Nat.le_of_ble_eq_true rfl, Nat.le_of_ble_eq_true rfl⟩) ⟨tx_blR, (va_recv (ci := 1) (q0 := 0) hK hP rfl rfl), tx_preR (hP) hK⟩ rfl rfl hl.1 rfl (lv_room (Nat.le_of_ble_eq_true rfl)) d_F_canBeCleaned_23 ⟨Nat.zero_le _, Nat.zero_le _⟩) (fun zz hz => ?_)
      subst hz
      refine lv_icmp_gt hx hb d_F_canBeCleaned_26 (tgt := 33) (by decide) (fun h26 => ?_) (fun h26 => ?_)
      · have hF := tx_t h26 hF
        exact J33 _ (lv_sub hl [] rfl) hF
      · have hF := tx_f h26 hF
        refine lv_iconst (v := (1 : Int32)) hx hb d_F_canBeCleaned_29 (by decide) ?_
        refine lv_goto hx hb d_F_canBeCleaned_30 (tgt := 34) (by decide) ?_
        exact J34 _ (1 : Int32) (lv_sub hl [] rfl) hF
abbrev rm_F_isBetterToClean : Room := { frames := 2, cells := 0, slots := 0, locals := 45 }
set_option maxHeartbeats 4000000 in
set_option maxRecDepth 100000 in
theorem c_F_isBetterToClean (l : Launch) (dC : Nat → ClassId) (dI : Nat → Nat → Nat) (cA : ClassId) (h0 q1 q2 q3 q4 q5 q6 : Nat) (st pl tk wd er : Nat → Int32) (nx md : Int32) (a1 : Int32) (a2 : Int32) (r : Int32)  (hF : f_F_isBetterToClean st er a1 a2 = some r) : Met l y_F_isBetterToClean ws_F_isBetterToClean rm_F_isBetterToClean (tx_PR [.ref h0, .int a1, .int a2] (dC, dI) [(cA, .int)] (wF cA h0 q1 q2 q3 q4 q5 q6 st pl tk wd er nx md)) (vp_Si (fun z => r = z)) 0 0 (fun _ => False) := by
  refine Met.ofW (cc := b_F_isBetterToClean) (maxL := 5) (ret := some .boolean) (by decide +kernel) rfl ?_
  intro p e s m args below meth c s₁ B hml hv
  obtain ⟨hargs, hP, hK⟩ := hv
  have hx := B.exec
  have hb := B.bytes
  have hr := B.returns
  have hts := atoms_spec (ws := ws_F_isBetterToClean) B.pre
  have hown : s.vm.findClass "FlashStore" = some m.cls := findClass_of_methodNamed B.named
  have hlocks := B.notSynchronized
  have w0 := (hts _ (List.mem_cons_of_mem _ bq_1_41))
  have hl := lv_entry ([.ref h0, .int a1, .int a2]) (n := 5) (Nat.le_of_ble_eq_true rfl)
  have hen : entryFrame m args 5 = _ := (congrArg (fun z => entryFrame m z 5) hargs).trans (lg_entry_eq m ([.ref h0, .int a1, .int a2]) 5)
  refine W.eq hen ?_
  clear hen
  generalize (lg_sl ([.ref h0, .int a1, .int a2]) ++ List.replicate (5 - (lg_sl ([.ref h0, .int a1, .int a2])).length) Slot.unset).toArray = ls at hl ⊢
  have hl : lv_has ls 5 [(0, .ref h0), (1, .int a1), (2, .int a2)] := hl
  have J59 : ∀ (ls : Array Slot) (z0 : Int32), lv_has ls 5 [] → f_F_isBetterToClean_J59 st er z0 = some r → W p l e (headSpec ws_F_isBetterToClean rm_F_isBetterToClean).room s m args below meth c s.heap [] 0 0 (MQ below (vp_Si (fun z => r = z)) args s 0 0 (fun _ => False)) (F0 m 59 ls [.int z0]) := by
    intro ls z0 hl hF
    have hF : (if ¬ (z0 = 0 ∨ z0 = 1) then none else some z0) = some r := hF
    obtain ⟨hz, hF⟩ := tx_g hF
    have hz := Classical.not_not.mp hz
    exact W.zret hx hb hr (tx_z hz) (fun t ht hW => ⟨_, rfl, (Option.some.inj hF).symm, ht⟩) (fun q h => by cases h) d_F_isBetterToClean_59
  have hF : ((f_F_countInBlock st a1 (1 : Int32)).bind fun r3 => (f_F_countInBlock st a2 (1 : Int32)).bind fun r10 => if r3 = r10 then ((f_M_erasuresOf er a1).bind fun r40 => (f_M_erasuresOf er a2).bind fun r48 => if r48 ≤ r40 then (f_F_isBetterToClean_J59 st er (0 : Int32)) else (f_F_isBetterToClean_J59 st er (1 : Int32))) else (if r10 ≤ r3 then (f_F_isBetterToClean_J59 st er (0 : Int32)) else (f_F_isBetterToClean_J59 st er (1 : Int32)))) = some r := hF
  refine lv_aload_n hx hb d_F_isBetterToClean_0 rfl (lv_at hl 0 rfl) ?_
  refine lv_iload_n hx hb d_F_isBetterToClean_1 rfl (lv_at hl 1 rfl) ?_
  refine lv_iconst (v := (1 : Int32)) hx hb d_F_isBetterToClean_2 (by decide) ?_
  obtain ⟨r3, hc3, hF⟩ := tx_b hF
  refine vp_callSi (W.runV (As := [.int a1, .int (1 : Int32)]) (rest := []) ⟨hx, hb, hml, hown, hts⟩ (c_F_countInBlock l dC dI cA h0 q1 q2 q3 q4 q5 q6 st pl tk wd er nx md a1 (1 : Int32) r3 hc3) (cwV 2 hts (tg_V bq_2_30 bq_2_32 bq_s_8 bq_1_1 bq_2_33) rfl rfl rfl (by decide +kernel) ⟨Nat.le_of_ble_eq_true rfl, Nat.le_of_ble_eq_true rfl⟩) ⟨tx_blR, (va_recv (ci := 1) (q0 := 0) hK hP rfl rfl), tx_preR (hP) hK⟩ rfl rfl hl.1 rfl (lv_room (Nat.le_of_ble_eq_true rfl)) d_F_isBetterToClean_3 ⟨Nat.zero_le _, Nat.zero_le _⟩) (fun zz hz => ?_)
  subst hz
  refine lv_istore_n hx hb d_F_isBetterToClean_6 rfl hl (by decide) rfl (fun ls hl => ?_)
  have hl : lv_has ls 5 [(3, .int r3), (0, .ref h0), (1, .int a1), (2, .int a2)] := hl
  refine lv_aload_n hx hb d_F_isBetterToClean_7 rfl (lv_at hl 1 rfl) ?_
  refine lv_iload_n hx hb d_F_isBetterToClean_8 rfl (lv_at hl 3 rfl) ?_
  refine lv_iconst (v := (1 : Int32)) hx hb d_F_isBetterToClean_9 (by decide) ?_
  obtain ⟨r10, hc10, hF⟩ := tx_b hF
  refine vp_callSi (W.runV (As := [.int a2, .int (1 : Int32)]) (rest := []) ⟨hx, hb, hml, hown, hts⟩ (c_F_countInBlock l dC dI cA h0 q1 q2 q3 q4 q5 q6 st pl tk wd er nx md a2 (1 : Int32) r10 hc10) (cwV 2 hts (tg_V bq_2_30 bq_2_32 bq_s_8 bq_1_1 bq_2_33) rfl rfl rfl (by decide +kernel) ⟨Nat.le_of_ble_eq_true rfl, Nat.le_of_ble_eq_true rfl⟩) ⟨tx_blR, (va_recv (ci := 1) (q0 := 0) hK hP rfl rfl), tx_preR (hP) hK⟩ rfl rfl hl.1 rfl (lv_room (Nat.le_of_ble_eq_true rfl)) d_F_isBetterToClean_10 ⟨Nat.zero_le _, Nat.zero_le _⟩) (fun zz hz => ?_)
  subst hz
  refine lv_istore hx hb d_F_isBetterToClean_13 hl (by decide) rfl (fun ls hl => ?_)
  have hl : lv_has ls 5 [(4, .int r10), (3, .int r3), (0, .ref h0), (1, .int a1), (2, .int a2)] := hl
  refine lv_iload_n hx hb d_F_isBetterToClean_15 rfl (lv_at hl 1 rfl) ?_
  refine lv_iload hx hb d_F_isBetterToClean_16 (lv_at hl 0 rfl) ?_
  refine lv_icmp_eq hx hb d_F_isBetterToClean_18 (tgt := 35) (by decide) (fun h18 => ?_) (fun h18 => ?_)
  · have hF := tx_t h18 hF
    refine lv_aload_n hx hb d_F_isBetterToClean_35 rfl (lv_at hl 2 rfl) ?_
    refine va_get (D := (dC, dI)) (ci := 1) (v := .ref q1) (C := "FlashStore") (T := TF) (N := 6) hx hb hts inTF hown hK hP 0 rfl rfl 0 (by decide) w0 (fun _ h9 => h9) rfl d_F_isBetterToClean_36 ?_
    refine lv_iload_n hx hb d_F_isBetterToClean_39 rfl (lv_at hl 3 rfl) ?_
    obtain ⟨r40, hc40, hF⟩ := tx_b hF
    refine vp_callSi (W.runV (As := [.int a1]) (rest := []) ⟨hx, hb, hml, hown, hts⟩ (c_M_erasuresOf l dC dI cA q1 q5 q6 wd er a1 r40 hc40) (cwV 1 hts (tg_V bq_2_53 bq_2_54 bq_2_55 bq_1_2 bq_2_56) rfl rfl rfl (by decide +kernel) ⟨Nat.le_of_ble_eq_true rfl, Nat.le_of_ble_eq_true rfl⟩) ⟨tx_blR, (va_recv (ci := 0) (q0 := 1) hK hP rfl rfl), tx_preR (hP.sub (ws' := (wM cA q1 q5 q6 wd er)) [1, 5, 6] rfl) hK⟩ rfl rfl hl.1 rfl (lv_room (Nat.le_of_ble_eq_true rfl)) d_F_isBetterToClean_40 ⟨Nat.zero_le _, Nat.zero_le _⟩) (fun zz hz => ?_)
    subst hz
    refine lv_aload_n hx hb d_F_isBetterToClean_43 rfl (lv_at hl 2 rfl) ?_
    refine va_get (D := (dC, dI)) (ci := 1) (v := .ref q1) (C := "FlashStore") (T := TF) (N := 6) hx hb hts inTF hown hK hP 0 rfl rfl 0 (by decide) w0 (fun _ h9 => h9) rfl d_F_isBetterToClean_44 ?_
    refine lv_iload_n hx hb d_F_isBetterToClean_47 rfl (lv_at hl 4 rfl) ?_
    obtain ⟨r48, hc48, hF⟩ := tx_b hF
    refine vp_callSi (W.runV (As := [.int a2]) (rest := [.int r40]) ⟨hx, hb, hml, hown, hts⟩ (c_M_erasuresOf l dC dI cA q1 q5 q6 wd er a2 r48 hc48) (cwV 1 hts (tg_V bq_2_53 bq_2_54 bq_2_55 bq_1_2 bq_2_56) rfl rfl rfl (by decide +kernel) ⟨Nat.le_of_ble_eq_true rfl, Nat.le_of_ble_eq_true rfl⟩) ⟨tx_blR, (va_recv (ci := 0) (q0 := 1) hK hP rfl rfl), tx_preR (hP.sub (ws' := (wM cA q1 q5 q6 wd er)) [1, 5, 6] rfl) hK⟩ rfl rfl hl.1 rfl (lv_room (Nat.le_of_ble_eq_true rfl)) d_F_isBetterToClean_48 ⟨Nat.zero_le _, Nat.zero_le _⟩) (fun zz hz => ?_)
    subst hz
    refine lv_icmp_ge hx hb d_F_isBetterToClean_51 (tgt := 58) (by decide) (fun h51 => ?_) (fun h51 => ?_)
    · have hF := tx_t h51 hF
      refine lv_iconst (v := (0 : Int32)) hx hb d_F_isBetterToClean_58 (by decide) ?_
      exact J59 _ (0 : Int32) (lv_sub hl [] rfl) hF
    · have hF := tx_f h51 hF
      refine lv_iconst (v := (1 : Int32)) hx hb d_F_isBetterToClean_54 (by decide) ?_
      refine lv_goto hx hb d_F_isBetterToClean_55 (tgt := 59) (by decide) ?_
      exact J59 _ (1 : Int32) (lv_sub hl [] rfl) hF
  · have hF := tx_f h18 hF
    refine lv_iload_n hx hb d_F_isBetterToClean_21 rfl (lv_at hl 1 rfl) ?_
    refine lv_iload hx hb d_F_isBetterToClean_22 (lv_at hl 0 rfl) ?_
    refine lv_icmp_ge hx hb d_F_isBetterToClean_24 (tgt := 31) (by decide) (fun h24 => ?_) (fun h24 => ?_)
    · have hF := tx_t h24 hF
      refine lv_iconst (v := (0 : Int32)) hx hb d_F_isBetterToClean_31 (by decide) ?_
      refine lv_goto hx hb d_F_isBetterToClean_32 (tgt := 59) (by decide) ?_
      exact J59 _ (0 : Int32) (lv_sub hl [] rfl) hF
    · have hF := tx_f h24 hF
      refine lv_iconst (v := (1 : Int32)) hx hb d_F_isBetterToClean_27 (by decide) ?_
      refine lv_goto hx hb d_F_isBetterToClean_28 (tgt := 59) (by decide) ?_
      exact J59 _ (1 : Int32) (lv_sub hl [] rfl) hF
abbrev rm_F_blockToClean : Room := { frames := 4, cells := 0, slots := 0, locals := 90 }
set_option maxHeartbeats 4000000 in
set_option maxRecDepth 100000 in
theorem c_F_blockToClean (l : Launch) (dC : Nat → ClassId) (dI : Nat → Nat → Nat) (cA : ClassId) (h0 q1 q2 q3 q4 q5 q6 : Nat) (st pl tk wd er : Nat → Int32) (nx md : Int32)  (r : Int32)  (hF : f_F_blockToClean st er = some r) : Met l y_F_blockToClean ws_F_blockToClean rm_F_blockToClean (tx_PR [.ref h0] (dC, dI) [(cA, .int)] (wF cA h0 q1 q2 q3 q4 q5 q6 st pl tk wd er nx md)) (vp_Si (fun z => r = z)) 0 0 (fun _ => False) := by
  refine Met.ofW (cc := b_F_blockToClean) (maxL := 3) (ret := some .int) (by decide +kernel) rfl ?_
  intro p e s m args below meth c s₁ B hml hv
  obtain ⟨hargs, hP, hK⟩ := hv
  have hx := B.exec
  have hb := B.bytes
  have hr := B.returns
  have hts := atoms_spec (ws := ws_F_blockToClean) B.pre
  have hown : s.vm.findClass "FlashStore" = some m.cls := findClass_of_methodNamed B.named
  have hlocks := B.notSynchronized
  have hl := lv_entry ([.ref h0]) (n := 3) (Nat.le_of_ble_eq_true rfl)
  have hen : entryFrame m args 3 = _ := (congrArg (fun z => entryFrame m z 3) hargs).trans (lg_entry_eq m ([.ref h0]) 3)
  refine W.eq hen ?_
  clear hen
  generalize (lg_sl ([.ref h0]) ++ List.replicate (3 - (lg_sl ([.ref h0])).length) Slot.unset).toArray = ls at hl ⊢
  have hl : lv_has ls 3 [(0, .ref h0)] := hl
  have J33 : ∀ (rc : (Nat → Int32) → (Nat → Int32) → Int32 → Int32 → Option (Int32)) (hrec0 : ∀ (ls : Array Slot) (v1 : Int32) (v2 : Int32), lv_has ls 3 [(0, .ref h0), (1, .int v1), (2, .int v2)] → rc st er v1 v2 = some r → W p l e (headSpec ws_F_blockToClean rm_F_blockToClean).room s m args below meth c s.heap [] 0 0 (MQ below (vp_Si (fun z => r = z)) args s 0 0 (fun _ => False)) (F0 m 4 ls [])), ∀ (ls : Array Slot) (v1 : Int32) (v2 : Int32), lv_has ls 3 [(0, .ref h0), (1, .int v1), (2, .int v2)] → f_F_blockToClean_J33 rc st er v1 v2 = some r → W p l e (headSpec ws_F_blockToClean rm_F_blockToClean).room s m args below meth c s.heap [] 0 0 (MQ below (vp_Si (fun z => r = z)) args s 0 0 (fun _ => False)) (F0 m 33 ls []) := by
    intro rc hrec0
    intro ls v1 v2 hl hF
    have hF : (rc st er v1 (v2 + (1 : Int32))) = some r := hF
    refine lv_iinc (k := 2) (v := (v2 + (1 : Int32))) hx hb d_F_blockToClean_33 hl rfl rfl (by decide) rfl (fun ls hl => ?_)
    have hl : lv_has ls 3 [(2, .int (v2 + (1 : Int32))), (0, .ref h0), (1, .int v1)] := hl
    refine lv_goto hx hb d_F_blockToClean_36 (tgt := 4) (by decide) ?_
    exact hrec0 _ v1 (v2 + (1 : Int32)) (lv_sub hl [1, 2, 0] rfl) hF
  have J31 : ∀ (rc : (Nat → Int32) → (Nat → Int32) → Int32 → Int32 → Option (Int32)) (hrec0 : ∀ (ls : Array Slot) (v1 : Int32) (v2 : Int32), lv_has ls 3 [(0, .ref h0), (1, .int v1), (2, .int v2)] → rc st er v1 v2 = some r → W p l e (headSpec ws_F_blockToClean rm_F_blockToClean).room s m args below meth c s.heap [] 0 0 (MQ below (vp_Si (fun z => r = z)) args s 0 0 (fun _ => False)) (F0 m 4 ls [])), ∀ (ls : Array Slot) (v2 : Int32), lv_has ls 3 [(0, .ref h0), (2, .int v2)] → f_F_blockToClean_J31 rc st er v2 = some r → W p l e (headSpec ws_F_blockToClean rm_F_blockToClean).room s m args below meth c s.heap [] 0 0 (MQ below (vp_Si (fun z => r = z)) args s 0 0 (fun _ => False)) (F0 m 31 ls []) := by
    intro rc hrec0
    intro ls v2 hl hF
    have hF : (f_F_blockToClean_J33 rc st er v2 v2) = some r := hF
    refine lv_iload_n hx hb d_F_blockToClean_31 rfl (lv_at hl 1 rfl) ?_
    refine lv_istore_n hx hb d_F_blockToClean_32 rfl hl (by decide) rfl (fun ls hl => ?_)
    have hl : lv_has ls 3 [(1, .int v2), (0, .ref h0), (2, .int v2)] := hl
    exact J33 _ hrec0 _ v2 v2 (lv_sub hl [1, 0, 2] rfl) hF
  have LH : ∀ n : Nat, (∀ (ls : Array Slot) (v1 : Int32) (v2 : Int32), lv_has ls 3 [(0, .ref h0), (1, .int v1), (2, .int v2)] → f_F_blockToClean_H n st er v1 v2 = some r → W p l e (headSpec ws_F_blockToClean rm_F_blockToClean).room s m args below meth c s.heap [] 0 0 (MQ below (vp_Si (fun z => r = z)) args s 0 0 (fun _ => False)) (F0 m 4 ls [])) := by
    intro n
    induction n with
    | zero =>
      exact (by intro ls v1 v2 hl hF; have hF : (none : Option (Int32)) = _ := hF; cases hF)
    | succ n ih =>
      have hrec0 := ih
      intro ls v1 v2 hl hF
      have hF : (if (4 : Int32) ≤ v2 then (some v1) else ((f_F_canBeCleaned st v2).bind fun r11 => if r11 = 0 then (f_F_blockToClean_J33 (f_F_blockToClean_H n) st er v1 v2) else (if v1 = (-1 : Int32) then (f_F_blockToClean_J31 (f_F_blockToClean_H n) st er v2) else ((f_F_isBetterToClean st er v2 v1).bind fun r25 => if r25 = 0 then (f_F_blockToClean_J33 (f_F_blockToClean_H n) st er v1 v2) else (f_F_blockToClean_J31 (f_F_blockToClean_H n) st er v2))))) = some r := hF
      refine lv_iload_n hx hb d_F_blockToClean_4 rfl (lv_at hl 2 rfl) ?_
      refine lv_iconst (v := (4 : Int32)) hx hb d_F_blockToClean_5 (by decide) ?_
      refine lv_icmp_ge hx hb d_F_blockToClean_6 (tgt := 39) (by decide) (fun h6 => ?_) (fun h6 => ?_)
      · have hF := tx_t h6 hF
        refine lv_iload_n hx hb d_F_blockToClean_39 rfl (lv_at hl 1 rfl) ?_
        exact W.iret hx hb hr (fun t ht hW => ⟨_, rfl, (Option.some.inj hF).symm, ht⟩) (fun q h => by cases h) d_F_blockToClean_40
      · have hF := tx_f h6 hF
        refine lv_aload_n hx hb d_F_blockToClean_9 rfl (lv_at hl 0 rfl) ?_
        refine lv_iload_n hx hb d_F_blockToClean_10 rfl (lv_at hl 2 rfl) ?_
        obtain ⟨r11, hc11, hF⟩ := tx_b hF
        refine vp_callSi (W.runV (As := [.int v2]) (rest := []) ⟨hx, hb, hml, hown, hts⟩ (c_F_canBeCleaned l dC dI cA h0 q1 q2 q3 q4 q5 q6 st pl tk wd er nx md v2 r11 hc11) (cwV 1 hts (tg_V bq_2_41 bq_2_43 bq_s_10 bq_1_1 bq_2_44) rfl rfl rfl (by decide +kernel) ⟨Nat.le_of_ble_eq_true rfl, Nat.le_of_ble_eq_true rfl⟩) ⟨tx_blR, (va_recv (ci := 1) (q0 := 0) hK hP rfl rfl), tx_preR (hP) hK⟩ rfl rfl hl.1 rfl (lv_room (Nat.le_of_ble_eq_true rfl)) d_F_blockToClean_11 ⟨Nat.zero_le _, Nat.zero_le _⟩) (fun zz hz => ?_)
        subst hz
        refine lv_if_eq hx hb d_F_blockToClean_14 (tgt := 33) (by decide) (fun h14 => ?_) (fun h14 => ?_)
        · have hF := tx_t h14 hF
          exact J33 _ hrec0 _ v1 v2 hl hF
        · have hF := tx_f h14 hF
          refine lv_iload_n hx hb d_F_blockToClean_17 rfl (lv_at hl 1 rfl) ?_
          refine lv_iconst (v := (-1 : Int32)) hx hb d_F_blockToClean_18 (by decide) ?_
          refine lv_icmp_eq hx hb d_F_blockToClean_19 (tgt := 31) (by decide) (fun h19 => ?_) (fun h19 => ?_)
          · have hF := tx_t h19 hF
            exact J31 _ hrec0 _ v2 (lv_sub hl [0, 2] rfl) hF
          · have hF := tx_f h19 hF
            refine lv_aload_n hx hb d_F_blockToClean_22 rfl (lv_at hl 0 rfl) ?_
            refine lv_iload_n hx hb d_F_blockToClean_23 rfl (lv_at hl 2 rfl) ?_
            refine lv_iload_n hx hb d_F_blockToClean_24 rfl (lv_at hl 1 rfl) ?_
            obtain ⟨r25, hc25, hF⟩ := tx_b hF
            refine vp_callSi (W.runV (As := [.int v2, .int v1]) (rest := []) ⟨hx, hb, hml, hown, hts⟩ (c_F_isBetterToClean l dC dI cA h0 q1 q2 q3 q4 q5 q6 st pl tk wd er nx md v2 v1 r25 hc25) (cwV 2 hts (tg_V bq_2_49 bq_2_51 bq_s_12 bq_1_1 bq_2_52) rfl rfl rfl (by decide +kernel) ⟨Nat.le_of_ble_eq_true rfl, Nat.le_of_ble_eq_true rfl⟩) ⟨tx_blR, (va_recv (ci := 1) (q0 := 0) hK hP rfl rfl), tx_preR (hP) hK⟩ rfl rfl hl.1 rfl (lv_room (Nat.le_of_ble_eq_true rfl)) d_F_blockToClean_25 ⟨Nat.zero_le _, Nat.zero_le _⟩) (fun zz hz => ?_)
            subst hz
            refine lv_if_eq hx hb d_F_blockToClean_28 (tgt := 33) (by decide) (fun h28 => ?_) (fun h28 => ?_)
            · have hF := tx_t h28 hF
              exact J33 _ hrec0 _ v1 v2 hl hF
            · have hF := tx_f h28 hF
              exact J31 _ hrec0 _ v2 (lv_sub hl [0, 2] rfl) hF
  obtain hrec0 := LH 100
  have hF : (f_F_blockToClean_H 100 st er (-1 : Int32) (0 : Int32)) = some r := hF
  refine lv_iconst (v := (-1 : Int32)) hx hb d_F_blockToClean_0 (by decide) ?_
  refine lv_istore_n hx hb d_F_blockToClean_1 rfl hl (by decide) rfl (fun ls hl => ?_)
  have hl : lv_has ls 3 [(1, .int (-1 : Int32)), (0, .ref h0)] := hl
  refine lv_iconst (v := (0 : Int32)) hx hb d_F_blockToClean_2 (by decide) ?_
  refine lv_istore_n hx hb d_F_blockToClean_3 rfl hl (by decide) rfl (fun ls hl => ?_)
  have hl : lv_has ls 3 [(2, .int (0 : Int32)), (1, .int (-1 : Int32)), (0, .ref h0)] := hl
  exact hrec0 _ (-1 : Int32) (0 : Int32) (lv_sub hl [2, 1, 0] rfl) hF
abbrev rm_F_moveAway : Room := { frames := 5, cells := 0, slots := 0, locals := 115 }
set_option maxHeartbeats 4000000 in
set_option maxRecDepth 100000 in
theorem c_F_moveAway (l : Launch) (dC : Nat → ClassId) (dI : Nat → Nat → Nat) (cA : ClassId) (h0 q1 q2 q3 q4 q5 q6 sz : Nat) (st pl tk wd er : Nat → Int32) (nx md : Int32) (a1 : Int32) (st' : Nat → Int32) (pl' : Nat → Int32) (wd' : Nat → Int32) (nx' : Int32) (hF : f_F_moveAway st pl wd nx a1 = some (st', pl', wd', nx')) : Met l y_F_moveAway ws_F_moveAway rm_F_moveAway (tx_PW [.ref h0, .int a1] (dC, dI) [(cA, .int)] (wF cA h0 q1 q2 q3 q4 q5 q6 st pl tk wd er nx md) sz) (va_Qv (S := Unit) (fun _ => True) (fun _ t => va_P (dC, dI) vwCl (wF cA h0 q1 q2 q3 q4 q5 q6 (st') (pl') tk (wd') er (nx') md) t.heap ∧ va_D (va_A (wF cA h0 q1 q2 q3 q4 q5 q6 st pl tk wd er nx md) sz) (wF cA h0 q1 q2 q3 q4 q5 q6 (st') (pl') tk (wd') er (nx') md)) (va_A (wF cA h0 q1 q2 q3 q4 q5 q6 st pl tk wd er nx md) sz)) 0 0 (va_A (wF cA h0 q1 q2 q3 q4 q5 q6 st pl tk wd er nx md) sz) := by
  refine Met.ofW (cc := b_F_moveAway) (maxL := 3) (ret := none) (by decide +kernel) rfl ?_
  intro p e s m args below meth c s₁ B hml hv
  obtain ⟨hargs, hsz, hP, hK, hD0, hNw⟩ := hv
  have hx := B.exec
  have hb := B.bytes
  have hr := B.returns
  have hts := atoms_spec (ws := ws_F_moveAway) B.pre
  have hown : s.vm.findClass "FlashStore" = some m.cls := findClass_of_methodNamed B.named
  have hlocks := B.notSynchronized
  subst hsz
  have hD := hD0.self (sz := s.heap.size)
  generalize hAe : va_A (wF cA h0 q1 q2 q3 q4 q5 q6 st pl tk wd er nx md) s.heap.size = A at hD ⊢
  have hA : ∀ q : Nat, s.heap.size ≤ q → A q := fun q h => by rw [← hAe]; exact Or.inr h
  have hS : va_S A s.heap s.heap [] := va_S.rf
  have hP : va_P (dC, dI) vwCl (wF cA h0 q1 q2 q3 q4 q5 q6 st pl tk wd er nx md) s.heap := hP
  have w0 := (hts _ (List.mem_cons_of_mem _ bq_1_41))
  have hl := lv_entry ([.ref h0, .int a1]) (n := 3) (Nat.le_of_ble_eq_true rfl)
  have hen : entryFrame m args 3 = _ := (congrArg (fun z => entryFrame m z 3) hargs).trans (lg_entry_eq m ([.ref h0, .int a1]) 3)
  refine W.eq hen ?_
  clear hen
  generalize (lg_sl ([.ref h0, .int a1]) ++ List.replicate (3 - (lg_sl ([.ref h0, .int a1])).length) Slot.unset).toArray = ls at hl ⊢
  have hl : lv_has ls 3 [(0, .ref h0), (1, .int a1)] := hl
  have J48 : ∀ (H : Heap) (locs : List Loc) (ls : Array Slot) (st : Nat → Int32) (pl : Nat → Int32) (wd : Nat → Int32) (nx : Int32), va_P (dC, dI) vwCl (wF cA h0 q1 q2 q3 q4 q5 q6 st pl tk wd er nx md) H → va_D A (wF cA h0 q1 q2 q3 q4 q5 q6 st pl tk wd er nx md) → va_S A s.heap H locs → lv_has ls 3 [] → f_F_moveAway_J48 st pl wd nx = some (st', pl', wd', nx') → W p l e (headSpec ws_F_moveAway rm_F_moveAway).room s m args below meth c H locs 0 0 (MQ below (va_Qv (S := Unit) (fun _ => True) (fun _ t => va_P (dC, dI) vwCl (wF cA h0 q1 q2 q3 q4 q5 q6 (st') (pl') tk (wd') er (nx') md) t.heap ∧ va_D A (wF cA h0 q1 q2 q3 q4 q5 q6 (st') (pl') tk (wd') er (nx') md)) A) args s 0 0 A) (F0 m 48 ls []) := by
    intro H locs ls st pl wd nx hP hD hS hl hF
    have hF : (some (st, pl, wd, nx)) = some (st', pl', wd', nx') := hF
    cases hF
    exact W.vret hx hb hr (fun t ht hW => ⟨⟨(), rfl, trivial, by rw [ht]; exact hP, hD⟩, hS.F ht⟩) hS.2.2 d_F_moveAway_48
  have hF : ((f_F_logicalPageAt pl a1).bind fun r2 => if r2 = (-1 : Int32) then (some (st, pl, wd, nx)) else ((f_M_isReadable wd a1).bind fun r17 => if r17 = 0 then ((f_F_forget st pl r2).bind fun (st45, pl45) => f_F_moveAway_J48 st45 pl45 wd nx) else ((f_M_contentAt wd a1).bind fun r30 => (f_F_blockOf a1).bind fun r34 => (f_F_put st pl wd nx r2 r30 r34).bind fun (st37, pl37, wd37, nx37) => f_F_moveAway_J48 st37 pl37 wd37 nx37))) = some (st', pl', wd', nx') := hF
  refine lv_aload_n hx hb d_F_moveAway_0 rfl (lv_at hl 0 rfl) ?_
  refine lv_iload_n hx hb d_F_moveAway_1 rfl (lv_at hl 1 rfl) ?_
  obtain ⟨r2, hc2, hF⟩ := tx_b hF
  refine vp_callSi (W.runV (As := [.int a1]) (rest := []) ⟨hx, hb, hml, hown, hts⟩ (c_F_logicalPageAt l dC dI cA h0 q1 q2 q3 q4 q5 q6 st pl tk wd er nx md a1 r2 hc2) (cwV 1 hts (tg_V bq_2_81 bq_2_83 bq_s_15 bq_1_1 bq_2_84) rfl rfl rfl (by decide +kernel) ⟨Nat.le_of_ble_eq_true rfl, Nat.le_of_ble_eq_true rfl⟩) ⟨tx_blR, (va_recv (ci := 1) (q0 := 0) hK hP rfl rfl), tx_preR (hP) hK⟩ rfl rfl hl.1 rfl (lv_room (Nat.le_of_ble_eq_true rfl)) d_F_moveAway_2 ⟨Nat.zero_le _, Nat.zero_le _⟩) (fun zz hz => ?_)
  subst hz
  refine lv_istore_n hx hb d_F_moveAway_5 rfl hl (by decide) rfl (fun ls hl => ?_)
  have hl : lv_has ls 3 [(2, .int r2), (0, .ref h0), (1, .int a1)] := hl
  refine lv_iload_n hx hb d_F_moveAway_6 rfl (lv_at hl 0 rfl) ?_
  refine lv_iconst (v := (-1 : Int32)) hx hb d_F_moveAway_7 (by decide) ?_
  refine lv_icmp_ne hx hb d_F_moveAway_8 (tgt := 12) (by decide) (fun h8 => ?_) (fun h8 => ?_)
  · have hF := tx_f h8 hF
    refine lv_aload_n hx hb d_F_moveAway_12 rfl (lv_at hl 1 rfl) ?_
    refine va_get (D := (dC, dI)) (ci := 1) (v := .ref q1) (C := "FlashStore") (T := TF) (N := 6) hx hb hts inTF hown hK hP 0 rfl rfl 0 (by decide) w0 (fun _ h9 => h9) rfl d_F_moveAway_13 ?_
    refine lv_iload_n hx hb d_F_moveAway_16 rfl (lv_at hl 2 rfl) ?_
    obtain ⟨r17, hc17, hF⟩ := tx_b hF
    refine vp_callSi (W.runV (As := [.int a1]) (rest := []) ⟨hx, hb, hml, hown, hts⟩ (c_M_isReadable l dC dI cA q1 q5 q6 wd er a1 r17 hc17) (cwV 1 hts (tg_V bq_2_85 bq_2_86 bq_2_87 bq_1_2 bq_2_88) rfl rfl rfl (by decide +kernel) ⟨Nat.le_of_ble_eq_true rfl, Nat.le_of_ble_eq_true rfl⟩) ⟨tx_blR, (va_recv (ci := 0) (q0 := 1) hK hP rfl rfl), tx_preR (hP.sub (ws' := (wM cA q1 q5 q6 wd er)) [1, 5, 6] rfl) hK⟩ rfl rfl hl.1 rfl (lv_room (Nat.le_of_ble_eq_true rfl)) d_F_moveAway_17 ⟨Nat.zero_le _, Nat.zero_le _⟩) (fun zz hz => ?_)
    subst hz
    refine lv_if_eq hx hb d_F_moveAway_20 (tgt := 43) (by decide) (fun h20 => ?_) (fun h20 => ?_)
    · have hF := tx_t h20 hF
      refine lv_aload_n hx hb d_F_moveAway_43 rfl (lv_at hl 1 rfl) ?_
      refine lv_iload_n hx hb d_F_moveAway_44 rfl (lv_at hl 0 rfl) ?_
      obtain ⟨⟨st45, pl45⟩, hc45, hF⟩ := tx_b hF
      try dsimp only at hF
      have hPc := hP.sub (ws' := (wF cA h0 q1 q2 q3 q4 q5 q6 st pl tk wd er nx md)) [0, 1, 2, 3, 4, 5, 6] rfl
      have hDc := hD.sub (ws' := (wF cA h0 q1 q2 q3 q4 q5 q6 st pl tk wd er nx md)) [0, 1, 2, 3, 4, 5, 6] (by decide) rfl
      have hFc := va_free (wc := (wF cA h0 q1 q2 q3 q4 q5 q6 st pl tk wd er nx md)) hD hS hA [0, 1, 2, 3, 4, 5, 6] rfl
      refine va_callv (va_runV (As := [.int r2]) (rest := []) ⟨hx, hb, hml, hown, hts⟩ (c_F_forget l dC dI cA h0 q1 q2 q3 q4 q5 q6 s.heap.size st pl tk wd er nx md r2 st45 pl45 hc45) (cwV 1 hts (tg_V bq_1_117 bq_1_119 bq_s_1 bq_1_1 bq_1_120) rfl rfl rfl (by decide +kernel) ⟨Nat.le_of_ble_eq_true rfl, Nat.le_of_ble_eq_true rfl⟩) ⟨tx_blW, (va_recv (ci := 1) (q0 := 0) hK hP rfl rfl), tx_preW hPc hDc hK hNw⟩ rfl rfl hl.1 rfl (lv_room (Nat.le_of_ble_eq_true rfl)) d_F_moveAway_45 ⟨Nat.zero_le _, Nat.zero_le _⟩) hS (fun q _ h => hFc q h) hFc (fun _u t H locs ht hvm hw hB hz1 hk1 hS => ?_)
      obtain ⟨hP1, hD1⟩ := hB
      rw [ht] at hP1
      obtain ⟨hP2, hD2⟩ := va_join (wr := []) (w1 := (wF cA h0 q1 q2 q3 q4 q5 q6 st45 pl45 tk wd er nx md)) hP hD [0, 1, 2, 3, 4, 5, 6] [] rfl rfl (by decide) (by decide) hk1 hFc hP1 hD1
      have hP := hP2.sub (ws' := (wF cA h0 q1 q2 q3 q4 q5 q6 st45 pl45 tk wd er nx md)) [0, 1, 2, 3, 4, 5, 6] rfl
      have hD := hD2.sub (ws' := (wF cA h0 q1 q2 q3 q4 q5 q6 st45 pl45 tk wd er nx md)) [0, 1, 2, 3, 4, 5, 6] (by decide) rfl
      exact J48 _ _ _ st45 pl45 wd nx hP hD hS (lv_sub hl [] rfl) hF
    · have hF := tx_f h20 hF
      refine lv_aload_n hx hb d_F_moveAway_23 rfl (lv_at hl 1 rfl) ?_
      refine lv_iload_n hx hb d_F_moveAway_24 rfl (lv_at hl 0 rfl) ?_
      refine lv_aload_n hx hb d_F_moveAway_25 rfl (lv_at hl 1 rfl) ?_
      refine va_get (D := (dC, dI)) (ci := 1) (v := .ref q1) (C := "FlashStore") (T := TF) (N := 6) hx hb hts inTF hown hK hP 0 rfl rfl 0 (by decide) w0 (fun _ h9 => h9) rfl d_F_moveAway_26 ?_
      refine lv_iload_n hx hb d_F_moveAway_29 rfl (lv_at hl 2 rfl) ?_
      obtain ⟨r30, hc30, hF⟩ := tx_b hF
      refine vp_callSl (W.runV (As := [.int a1]) (rest := [.int r2, .ref h0]) ⟨hx, hb, hml, hown, hts⟩ (c_M_contentAt l dC dI cA q1 q5 q6 wd er a1 r30 hc30) (cwV 1 hts (tg_V bq_2_89 bq_2_90 bq_2_91 bq_1_2 bq_2_92) rfl rfl rfl (by decide +kernel) ⟨Nat.le_of_ble_eq_true rfl, Nat.le_of_ble_eq_true rfl⟩) ⟨tx_blR, (va_recv (ci := 0) (q0 := 1) hK hP rfl rfl), tx_preR (hP.sub (ws' := (wM cA q1 q5 q6 wd er)) [1, 5, 6] rfl) hK⟩ rfl rfl hl.1 rfl (lv_room (Nat.le_of_ble_eq_true rfl)) d_F_moveAway_30 ⟨Nat.zero_le _, Nat.zero_le _⟩) (fun zz hz => ?_)
      subst hz
      refine lv_iload_n hx hb d_F_moveAway_33 rfl (lv_at hl 2 rfl) ?_
      obtain ⟨r34, hc34, hF⟩ := tx_b hF
      refine vp_callSi (W.runS (As := [.int a1]) (rest := [.long r30, .int r2, .ref h0]) ⟨hx, hb, hml, hown, hts⟩ (c_F_blockOf l a1 r34 hc34) (va_cwS 1 hts (tg_S bq_2_23 bq_2_24 bq_1_1 bq_2_25) rfl rfl rfl (by decide +kernel) ⟨Nat.le_of_ble_eq_true rfl, Nat.le_of_ble_eq_true rfl⟩) ⟨tx_bl0, tx_pre0⟩ rfl rfl hl.1 rfl (lv_room (Nat.le_of_ble_eq_true rfl)) d_F_moveAway_34 ⟨Nat.zero_le _, Nat.zero_le _⟩) (fun zz hz => ?_)
      subst hz
      obtain ⟨⟨st37, pl37, wd37, nx37⟩, hc37, hF⟩ := tx_b hF
      try dsimp only at hF
      have hPc := hP.sub (ws' := (wF cA h0 q1 q2 q3 q4 q5 q6 st pl tk wd er nx md)) [0, 1, 2, 3, 4, 5, 6] rfl
      have hDc := hD.sub (ws' := (wF cA h0 q1 q2 q3 q4 q5 q6 st pl tk wd er nx md)) [0, 1, 2, 3, 4, 5, 6] (by decide) rfl
      have hFc := va_free (wc := (wF cA h0 q1 q2 q3 q4 q5 q6 st pl tk wd er nx md)) hD hS hA [0, 1, 2, 3, 4, 5, 6] rfl
      refine va_callv (va_runV (As := [.int r2, .long r30, .int r34]) (rest := []) ⟨hx, hb, hml, hown, hts⟩ (c_F_put l dC dI cA h0 q1 q2 q3 q4 q5 q6 s.heap.size st pl tk wd er nx md r2 r30 r34 st37 pl37 wd37 nx37 hc37) (cwV 3 hts (tg_V bq_2_93 bq_2_95 bq_s_16 bq_1_1 bq_2_96) rfl rfl rfl (by decide +kernel) ⟨Nat.le_of_ble_eq_true rfl, Nat.le_of_ble_eq_true rfl⟩) ⟨tx_blW, (va_recv (ci := 1) (q0 := 0) hK hP rfl rfl), tx_preW hPc hDc hK hNw⟩ rfl rfl hl.1 rfl (lv_room (Nat.le_of_ble_eq_true rfl)) d_F_moveAway_37 ⟨Nat.zero_le _, Nat.zero_le _⟩) hS (fun q _ h => hFc q h) hFc (fun _u t H locs ht hvm hw hB hz1 hk1 hS => ?_)
      obtain ⟨hP1, hD1⟩ := hB
      rw [ht] at hP1
      obtain ⟨hP2, hD2⟩ := va_join (wr := []) (w1 := (wF cA h0 q1 q2 q3 q4 q5 q6 st37 pl37 tk wd37 er nx37 md)) hP hD [0, 1, 2, 3, 4, 5, 6] [] rfl rfl (by decide) (by decide) hk1 hFc hP1 hD1
      have hP := hP2.sub (ws' := (wF cA h0 q1 q2 q3 q4 q5 q6 st37 pl37 tk wd37 er nx37 md)) [0, 1, 2, 3, 4, 5, 6] rfl
      have hD := hD2.sub (ws' := (wF cA h0 q1 q2 q3 q4 q5 q6 st37 pl37 tk wd37 er nx37 md)) [0, 1, 2, 3, 4, 5, 6] (by decide) rfl
      refine lv_goto hx hb d_F_moveAway_40 (tgt := 48) (by decide) ?_
      exact J48 _ _ _ st37 pl37 wd37 nx37 hP hD hS (lv_sub hl [] rfl) hF
  · have hF := tx_t h8 hF
    cases hF
    exact W.vret hx hb hr (fun t ht hW => ⟨⟨(), rfl, trivial, by rw [ht]; exact hP, hD⟩, hS.F ht⟩) hS.2.2 d_F_moveAway_11
abbrev rm_F_cleanBlock : Room := { frames := 6, cells := 0, slots := 0, locals := 137 }
set_option maxHeartbeats 4000000 in
set_option maxRecDepth 100000 in
theorem c_F_cleanBlock (l : Launch) (dC : Nat → ClassId) (dI : Nat → Nat → Nat) (cA : ClassId) (h0 q1 q2 q3 q4 q5 q6 sz : Nat) (st pl tk wd er : Nat → Int32) (nx md : Int32) (a1 : Int32) (st' : Nat → Int32) (pl' : Nat → Int32) (wd' : Nat → Int32) (er' : Nat → Int32) (nx' : Int32) (hF : f_F_cleanBlock st pl wd er nx a1 = some (st', pl', wd', er', nx')) : Met l y_F_cleanBlock ws_F_cleanBlock rm_F_cleanBlock (tx_PW [.ref h0, .int a1] (dC, dI) [(cA, .int)] (wF cA h0 q1 q2 q3 q4 q5 q6 st pl tk wd er nx md) sz) (va_Qv (S := Unit) (fun _ => True) (fun _ t => va_P (dC, dI) vwCl (wF cA h0 q1 q2 q3 q4 q5 q6 (st') (pl') tk (wd') (er') (nx') md) t.heap ∧ va_D (va_A (wF cA h0 q1 q2 q3 q4 q5 q6 st pl tk wd er nx md) sz) (wF cA h0 q1 q2 q3 q4 q5 q6 (st') (pl') tk (wd') (er') (nx') md)) (va_A (wF cA h0 q1 q2 q3 q4 q5 q6 st pl tk wd er nx md) sz)) 0 0 (va_A (wF cA h0 q1 q2 q3 q4 q5 q6 st pl tk wd er nx md) sz) := by
  refine Met.ofW (cc := b_F_cleanBlock) (maxL := 3) (ret := none) (by decide +kernel) rfl ?_
  intro p e s m args below meth c s₁ B hml hv
  obtain ⟨hargs, hsz, hP, hK, hD0, hNw⟩ := hv
  have hx := B.exec
  have hb := B.bytes
  have hr := B.returns
  have hts := atoms_spec (ws := ws_F_cleanBlock) B.pre
  have hown : s.vm.findClass "FlashStore" = some m.cls := findClass_of_methodNamed B.named
  have hlocks := B.notSynchronized
  subst hsz
  have hD := hD0.self (sz := s.heap.size)
  generalize hAe : va_A (wF cA h0 q1 q2 q3 q4 q5 q6 st pl tk wd er nx md) s.heap.size = A at hD ⊢
  have hA : ∀ q : Nat, s.heap.size ≤ q → A q := fun q h => by rw [← hAe]; exact Or.inr h
  have hS : va_S A s.heap s.heap [] := va_S.rf
  have hP : va_P (dC, dI) vwCl (wF cA h0 q1 q2 q3 q4 q5 q6 st pl tk wd er nx md) s.heap := hP
  have w0 := (hts _ (List.mem_cons_of_mem _ bq_1_41))
  have w1 := (hts _ (List.mem_cons_of_mem _ bq_1_42))
  have hl := lv_entry ([.ref h0, .int a1]) (n := 3) (Nat.le_of_ble_eq_true rfl)
  have hen : entryFrame m args 3 = _ := (congrArg (fun z => entryFrame m z 3) hargs).trans (lg_entry_eq m ([.ref h0, .int a1]) 3)
  refine W.eq hen ?_
  clear hen
  generalize (lg_sl ([.ref h0, .int a1]) ++ List.replicate (3 - (lg_sl ([.ref h0, .int a1])).length) Slot.unset).toArray = ls at hl ⊢
  have hl : lv_has ls 3 [(0, .ref h0), (1, .int a1)] := hl
  have LH : ∀ n : Nat, (∀ (H : Heap) (locs : List Loc) (ls : Array Slot) (st : Nat → Int32) (pl : Nat → Int32) (wd : Nat → Int32) (er : Nat → Int32) (nx : Int32) (v1 : Int32) (v2 : Int32), va_P (dC, dI) vwCl (wF cA h0 q1 q2 q3 q4 q5 q6 st pl tk wd er nx md) H → va_D A (wF cA h0 q1 q2 q3 q4 q5 q6 st pl tk wd er nx md) → va_S A s.heap H locs → lv_has ls 3 [(0, .ref h0), (1, .int v1), (2, .int v2)] → f_F_cleanBlock_H n st pl wd er nx 0 v1 v2 = some (st', pl', wd', er', nx') → W p l e (headSpec ws_F_cleanBlock rm_F_cleanBlock).room s m args below meth c H locs 0 0 (MQ below (va_Qv (S := Unit) (fun _ => True) (fun _ t => va_P (dC, dI) vwCl (wF cA h0 q1 q2 q3 q4 q5 q6 (st') (pl') tk (wd') (er') (nx') md) t.heap ∧ va_D A (wF cA h0 q1 q2 q3 q4 q5 q6 (st') (pl') tk (wd') (er') (nx') md)) A) args s 0 0 A) (F0 m 2 ls [])) ∧ (∀ (H : Heap) (locs : List Loc) (ls : Array Slot) (st : Nat → Int32) (pl : Nat → Int32) (wd : Nat → Int32) (er : Nat → Int32) (nx : Int32) (v1 : Int32) (v2 : Int32), va_P (dC, dI) vwCl (wF cA h0 q1 q2 q3 q4 q5 q6 st pl tk wd er nx md) H → va_D A (wF cA h0 q1 q2 q3 q4 q5 q6 st pl tk wd er nx md) → va_S A s.heap H locs → lv_has ls 3 [(0, .ref h0), (1, .int v1), (2, .int v2)] → f_F_cleanBlock_H n st pl wd er nx 1 v1 v2 = some (st', pl', wd', er', nx') → W p l e (headSpec ws_F_cleanBlock rm_F_cleanBlock).room s m args below meth c H locs 0 0 (MQ below (va_Qv (S := Unit) (fun _ => True) (fun _ t => va_P (dC, dI) vwCl (wF cA h0 q1 q2 q3 q4 q5 q6 (st') (pl') tk (wd') (er') (nx') md) t.heap ∧ va_D A (wF cA h0 q1 q2 q3 q4 q5 q6 (st') (pl') tk (wd') (er') (nx') md)) A) args s 0 0 A) (F0 m 32 ls [])) := by
    intro n
    induction n with
    | zero =>
      exact ⟨(by intro H locs ls st pl wd er nx v1 v2 hP hD hS hl hF; have hF : (none : Option ((Nat → Int32) × (Nat → Int32) × (Nat → Int32) × (Nat → Int32) × Int32)) = _ := hF; cases hF), (by intro H locs ls st pl wd er nx v1 v2 hP hD hS hl hF; have hF : (none : Option ((Nat → Int32) × (Nat → Int32) × (Nat → Int32) × (Nat → Int32) × Int32)) = _ := hF; cases hF)⟩
    | succ n ih =>
      obtain ⟨hrec0, hrec1⟩ := ih
      refine ⟨?_, ?_⟩
      · intro H locs ls st pl wd er nx v1 v2 hP hD hS hl hF
        have hF : (if (4 : Int32) ≤ v2 then ((f_M_erase wd er v1).bind fun (wd27, er27) => f_F_cleanBlock_H n st pl wd27 er27 nx 1 v1 (0 : Int32)) else ((f_F_placeOf v1 v2).bind fun r10 => (f_F_moveAway st pl wd nx r10).bind fun (st13, pl13, wd13, nx13) => f_F_cleanBlock_H n st13 pl13 wd13 er nx13 0 v1 (v2 + (1 : Int32)))) = some (st', pl', wd', er', nx') := hF
        refine lv_iload_n hx hb d_F_cleanBlock_2 rfl (lv_at hl 2 rfl) ?_
        refine lv_iconst (v := (4 : Int32)) hx hb d_F_cleanBlock_3 (by decide) ?_
        refine lv_icmp_ge hx hb d_F_cleanBlock_4 (tgt := 22) (by decide) (fun h4 => ?_) (fun h4 => ?_)
        · have hF := tx_t h4 hF
          refine lv_aload_n hx hb d_F_cleanBlock_22 rfl (lv_at hl 0 rfl) ?_
          refine va_get (D := (dC, dI)) (ci := 1) (v := .ref q1) (C := "FlashStore") (T := TF) (N := 6) hx hb hts inTF hown hK hP 0 rfl rfl 0 (by decide) w0 (fun _ h9 => h9) rfl d_F_cleanBlock_23 ?_
          refine lv_iload_n hx hb d_F_cleanBlock_26 rfl (lv_at hl 1 rfl) ?_
          obtain ⟨⟨wd27, er27⟩, hc27, hF⟩ := tx_b hF
          try dsimp only at hF
          have hPc := hP.sub (ws' := (wM cA q1 q5 q6 wd er)) [1, 5, 6] rfl
          have hDc := hD.sub (ws' := (wM cA q1 q5 q6 wd er)) [1, 5, 6] (by decide) rfl
          have hFc := va_free (wc := (wM cA q1 q5 q6 wd er)) hD hS hA [1, 5, 6] rfl
          refine va_callv (va_runV (As := [.int v1]) (rest := []) ⟨hx, hb, hml, hown, hts⟩ (c_M_erase l dC dI cA q1 q5 q6 H.size wd er v1 wd27 er27 hc27) (cwV 1 hts (tg_V bq_2_103 bq_2_104 bq_2_105 bq_1_2 bq_2_106) rfl rfl rfl (by decide +kernel) ⟨Nat.le_of_ble_eq_true rfl, Nat.le_of_ble_eq_true rfl⟩) ⟨tx_blW, (va_recv (ci := 0) (q0 := 1) hK hP rfl rfl), tx_preW hPc hDc hK hNw⟩ rfl rfl hl.1 rfl (lv_room (Nat.le_of_ble_eq_true rfl)) d_F_cleanBlock_27 ⟨Nat.zero_le _, Nat.zero_le _⟩) hS (fun q _ h => hFc q h) hFc (fun _u t H locs ht hvm hw hB hz1 hk1 hS => ?_)
          obtain ⟨hP1, hD1⟩ := hB
          rw [ht] at hP1
          obtain ⟨hP2, hD2⟩ := va_join (wr := [(h0, .inr (1, [.ref q1, .ref q2, .ref q3, .ref q4, .int nx, .int md])), (q2, .inl (cA, 16, .inl st)), (q3, .inl (cA, 8, .inl pl)), (q4, .inl (cA, 8, .inl tk))]) (w1 := (wM cA q1 q5 q6 wd27 er27)) hP hD [1, 5, 6] [0, 2, 3, 4] rfl rfl (by decide) (by decide) hk1 hFc hP1 hD1
          have hP := hP2.sub (ws' := (wF cA h0 q1 q2 q3 q4 q5 q6 st pl tk wd27 er27 nx md)) [0, 4, 1, 2, 3, 5, 6] rfl
          have hD := hD2.sub (ws' := (wF cA h0 q1 q2 q3 q4 q5 q6 st pl tk wd27 er27 nx md)) [0, 4, 1, 2, 3, 5, 6] (by decide) rfl
          refine lv_iconst (v := (0 : Int32)) hx hb d_F_cleanBlock_30 (by decide) ?_
          refine lv_istore_n hx hb d_F_cleanBlock_31 rfl hl (by decide) rfl (fun ls hl => ?_)
          have hl : lv_has ls 3 [(2, .int (0 : Int32)), (0, .ref h0), (1, .int v1)] := hl
          exact hrec1 _ _ _ st pl wd27 er27 nx v1 (0 : Int32) hP hD hS (lv_sub hl [1, 2, 0] rfl) hF
        · have hF := tx_f h4 hF
          refine lv_aload_n hx hb d_F_cleanBlock_7 rfl (lv_at hl 0 rfl) ?_
          refine lv_iload_n hx hb d_F_cleanBlock_8 rfl (lv_at hl 1 rfl) ?_
          refine lv_iload_n hx hb d_F_cleanBlock_9 rfl (lv_at hl 2 rfl) ?_
          obtain ⟨r10, hc10, hF⟩ := tx_b hF
          refine vp_callSi (W.runS (As := [.int v1, .int v2]) (rest := [.ref h0]) ⟨hx, hb, hml, hown, hts⟩ (c_F_placeOf l v1 v2 r10 hc10) (va_cwS 2 hts (tg_S bq_2_34 bq_2_35 bq_1_1 bq_2_36) rfl rfl rfl (by decide +kernel) ⟨Nat.le_of_ble_eq_true rfl, Nat.le_of_ble_eq_true rfl⟩) ⟨tx_bl0, tx_pre0⟩ rfl rfl hl.1 rfl (lv_room (Nat.le_of_ble_eq_true rfl)) d_F_cleanBlock_10 ⟨Nat.zero_le _, Nat.zero_le _⟩) (fun zz hz => ?_)
          subst hz
          obtain ⟨⟨st13, pl13, wd13, nx13⟩, hc13, hF⟩ := tx_b hF
          try dsimp only at hF
          have hPc := hP.sub (ws' := (wF cA h0 q1 q2 q3 q4 q5 q6 st pl tk wd er nx md)) [0, 1, 2, 3, 4, 5, 6] rfl
          have hDc := hD.sub (ws' := (wF cA h0 q1 q2 q3 q4 q5 q6 st pl tk wd er nx md)) [0, 1, 2, 3, 4, 5, 6] (by decide) rfl
          have hFc := va_free (wc := (wF cA h0 q1 q2 q3 q4 q5 q6 st pl tk wd er nx md)) hD hS hA [0, 1, 2, 3, 4, 5, 6] rfl
          refine va_callv (va_runV (As := [.int r10]) (rest := []) ⟨hx, hb, hml, hown, hts⟩ (c_F_moveAway l dC dI cA h0 q1 q2 q3 q4 q5 q6 H.size st pl tk wd er nx md r10 st13 pl13 wd13 nx13 hc13) (cwV 1 hts (tg_V bq_2_77 bq_2_79 bq_s_14 bq_1_1 bq_2_80) rfl rfl rfl (by decide +kernel) ⟨Nat.le_of_ble_eq_true rfl, Nat.le_of_ble_eq_true rfl⟩) ⟨tx_blW, (va_recv (ci := 1) (q0 := 0) hK hP rfl rfl), tx_preW hPc hDc hK hNw⟩ rfl rfl hl.1 rfl (lv_room (Nat.le_of_ble_eq_true rfl)) d_F_cleanBlock_13 ⟨Nat.zero_le _, Nat.zero_le _⟩) hS (fun q _ h => hFc q h) hFc (fun _u t H locs ht hvm hw hB hz1 hk1 hS => ?_)
          obtain ⟨hP1, hD1⟩ := hB
          rw [ht] at hP1
          obtain ⟨hP2, hD2⟩ := va_join (wr := []) (w1 := (wF cA h0 q1 q2 q3 q4 q5 q6 st13 pl13 tk wd13 er nx13 md)) hP hD [0, 1, 2, 3, 4, 5, 6] [] rfl rfl (by decide) (by decide) hk1 hFc hP1 hD1
          have hP := hP2.sub (ws' := (wF cA h0 q1 q2 q3 q4 q5 q6 st13 pl13 tk wd13 er nx13 md)) [0, 1, 2, 3, 4, 5, 6] rfl
          have hD := hD2.sub (ws' := (wF cA h0 q1 q2 q3 q4 q5 q6 st13 pl13 tk wd13 er nx13 md)) [0, 1, 2, 3, 4, 5, 6] (by decide) rfl
          refine lv_iinc (k := 2) (v := (v2 + (1 : Int32))) hx hb d_F_cleanBlock_16 hl rfl rfl (by decide) rfl (fun ls hl => ?_)
          have hl : lv_has ls 3 [(2, .int (v2 + (1 : Int32))), (0, .ref h0), (1, .int v1)] := hl
          refine lv_goto hx hb d_F_cleanBlock_19 (tgt := 2) (by decide) ?_
          exact hrec0 _ _ _ st13 pl13 wd13 er nx13 v1 (v2 + (1 : Int32)) hP hD hS (lv_sub hl [1, 2, 0] rfl) hF
      · intro H locs ls st pl wd er nx v1 v2 hP hD hS hl hF
        have hF : (if (4 : Int32) ≤ v2 then (some (st, pl, wd, er, nx)) else ((f_F_placeOf v1 v2).bind fun r43 => if r43 < 0 ∨ 16 ≤ r43.toNatClampNeg then none else f_F_cleanBlock_H n (upd st r43.toNatClampNeg (0 : Int32)) pl wd er nx 1 v1 (v2 + (1 : Int32)))) = some (st', pl', wd', er', nx') := hF
        refine lv_iload_n hx hb d_F_cleanBlock_32 rfl (lv_at hl 2 rfl) ?_
        refine lv_iconst (v := (4 : Int32)) hx hb d_F_cleanBlock_33 (by decide) ?_
        refine lv_icmp_ge hx hb d_F_cleanBlock_34 (tgt := 54) (by decide) (fun h34 => ?_) (fun h34 => ?_)
        · have hF := tx_t h34 hF
          cases hF
          exact W.vret hx hb hr (fun t ht hW => ⟨⟨(), rfl, trivial, by rw [ht]; exact hP, hD⟩, hS.F ht⟩) hS.2.2 d_F_cleanBlock_54
        · have hF := tx_f h34 hF
          refine lv_aload_n hx hb d_F_cleanBlock_37 rfl (lv_at hl 0 rfl) ?_
          refine va_get (D := (dC, dI)) (ci := 1) (v := .ref q2) (C := "FlashStore") (T := TF) (N := 6) hx hb hts inTF hown hK hP 0 rfl rfl 1 (by decide) w1 (fun _ h9 => h9) rfl d_F_cleanBlock_38 ?_
          refine lv_iload_n hx hb d_F_cleanBlock_41 rfl (lv_at hl 1 rfl) ?_
          refine lv_iload_n hx hb d_F_cleanBlock_42 rfl (lv_at hl 2 rfl) ?_
          obtain ⟨r43, hc43, hF⟩ := tx_b hF
          refine vp_callSi (W.runS (As := [.int v1, .int v2]) (rest := [.ref q2]) ⟨hx, hb, hml, hown, hts⟩ (c_F_placeOf l v1 v2 r43 hc43) (va_cwS 2 hts (tg_S bq_2_34 bq_2_35 bq_1_1 bq_2_36) rfl rfl rfl (by decide +kernel) ⟨Nat.le_of_ble_eq_true rfl, Nat.le_of_ble_eq_true rfl⟩) ⟨tx_bl0, tx_pre0⟩ rfl rfl hl.1 rfl (lv_room (Nat.le_of_ble_eq_true rfl)) d_F_cleanBlock_43 ⟨Nat.zero_le _, Nat.zero_le _⟩) (fun zz hz => ?_)
          subst hz
          refine lv_iconst (v := (0 : Int32)) hx hb d_F_cleanBlock_46 (by decide) ?_
          obtain ⟨hi47, hF⟩ := tx_g hF
          refine va_iast hx hb hK hP hD hS 2 0 rfl rfl hi47 d_F_cleanBlock_47 (fun H locs hP hD hS => ?_)
          have hP : va_P (dC, dI) vwCl (wF cA h0 q1 q2 q3 q4 q5 q6 (upd st r43.toNatClampNeg (0 : Int32)) pl tk wd er nx md) H := hP
          have hD : va_D A (wF cA h0 q1 q2 q3 q4 q5 q6 (upd st r43.toNatClampNeg (0 : Int32)) pl tk wd er nx md) := hD
          refine lv_iinc (k := 2) (v := (v2 + (1 : Int32))) hx hb d_F_cleanBlock_48 hl rfl rfl (by decide) rfl (fun ls hl => ?_)
          have hl : lv_has ls 3 [(2, .int (v2 + (1 : Int32))), (0, .ref h0), (1, .int v1)] := hl
          refine lv_goto hx hb d_F_cleanBlock_51 (tgt := 32) (by decide) ?_
          exact hrec1 _ _ _ (upd st r43.toNatClampNeg (0 : Int32)) pl wd er nx v1 (v2 + (1 : Int32)) hP hD hS (lv_sub hl [1, 2, 0] rfl) hF
  obtain ⟨hrec0, hrec1⟩ := LH 100
  have hF : (f_F_cleanBlock_H 100 st pl wd er nx 0 a1 (0 : Int32)) = some (st', pl', wd', er', nx') := hF
  refine lv_iconst (v := (0 : Int32)) hx hb d_F_cleanBlock_0 (by decide) ?_
  refine lv_istore_n hx hb d_F_cleanBlock_1 rfl hl (by decide) rfl (fun ls hl => ?_)
  have hl : lv_has ls 3 [(2, .int (0 : Int32)), (0, .ref h0), (1, .int a1)] := hl
  exact hrec0 _ _ _ st pl wd er nx a1 (0 : Int32) hP hD hS (lv_sub hl [1, 2, 0] rfl) hF
abbrev rm_F_encode : Room := { frames := 2, cells := 0, slots := 0, locals := 43 }
set_option maxHeartbeats 4000000 in
set_option maxRecDepth 100000 in
theorem c_F_encode (l : Launch) (dC : Nat → ClassId) (dI : Nat → Nat → Nat) (cA : ClassId) (h0 q1 q2 q3 q4 q5 q6 : Nat) (st pl tk wd er : Nat → Int32) (nx md : Int32) (a1 : Int32) (r : Int32)  (hF : f_F_encode a1 = some r) : Met l y_F_encode ws_F_encode rm_F_encode (tx_PR [.ref h0, .int a1] (dC, dI) [(cA, .int)] (wF cA h0 q1 q2 q3 q4 q5 q6 st pl tk wd er nx md)) (vp_Si (fun z => r = z)) 0 0 (fun _ => False) := by
  refine Met.ofW (cc := b_F_encode) (maxL := 2) (ret := some .int) (by decide +kernel) rfl ?_
  intro p e s m args below meth c s₁ B hml hv
  obtain ⟨hargs, hP, hK⟩ := hv
  have hx := B.exec
  have hb := B.bytes
  have hr := B.returns
  have hts := atoms_spec (ws := ws_F_encode) B.pre
  have hown : s.vm.findClass "FlashStore" = some m.cls := findClass_of_methodNamed B.named
  have hlocks := B.notSynchronized
  have w0 := hts (.constant "FlashStore" 41 (65535 : Int32)) (by decide +kernel)
  have hl := lv_entry ([.ref h0, .int a1]) (n := 2) (Nat.le_of_ble_eq_true rfl)
  have hen : entryFrame m args 2 = _ := (congrArg (fun z => entryFrame m z 2) hargs).trans (lg_entry_eq m ([.ref h0, .int a1]) 2)
  refine W.eq hen ?_
  clear hen
  generalize (lg_sl ([.ref h0, .int a1]) ++ List.replicate (2 - (lg_sl ([.ref h0, .int a1])).length) Slot.unset).toArray = ls at hl ⊢
  have hl : lv_has ls 2 [(0, .ref h0), (1, .int a1)] := hl
  have J10 : ∀ (ls : Array Slot), lv_has ls 2 [] → f_F_encode_J10  = some r → W p l e (headSpec ws_F_encode rm_F_encode).room s m args below meth c s.heap [] 0 0 (MQ below (vp_Si (fun z => r = z)) args s 0 0 (fun _ => False)) (F0 m 10 ls []) := by
    intro ls hl hF
    have hF : (none) = some r := hF
    cases hF
  have hF : (if a1 < 0 then (f_F_encode_J10 ) else (if a1 ≤ (65535 : Int32) then ((f_C_codewordOf a1).bind fun r21 => some r21) else (f_F_encode_J10 ))) = some r := hF
  refine lv_iload_n hx hb d_F_encode_0 rfl (lv_at hl 1 rfl) ?_
  refine lv_if_lt hx hb d_F_encode_1 (tgt := 10) (by decide) (fun h1 => ?_) (fun h1 => ?_)
  · have hF := tx_t h1 hF
    exact J10 _ (lv_sub hl [] rfl) hF
  · have hF := tx_f h1 hF
    refine lv_iload_n hx hb d_F_encode_4 rfl (lv_at hl 1 rfl) ?_
    refine lv_ldc hx hb hown w0 d_F_encode_5 ?_
    refine lv_icmp_le hx hb d_F_encode_7 (tgt := 20) (by decide) (fun h7 => ?_) (fun h7 => ?_)
    · have hF := tx_t h7 hF
      refine lv_iload_n hx hb d_F_encode_20 rfl (lv_at hl 1 rfl) ?_
      obtain ⟨r21, hc21, hF⟩ := tx_b hF
      refine vp_callSi (W.runS (As := [.int a1]) (rest := []) ⟨hx, hb, hml, hown, hts⟩ (c_C_codewordOf l a1 r21 hc21) (va_cwS 1 hts (tg_S bq_1_212 bq_1_213 bq_1_9 bq_1_214) rfl rfl rfl (by decide +kernel) ⟨Nat.le_of_ble_eq_true rfl, Nat.le_of_ble_eq_true rfl⟩) ⟨tx_bl0, tx_pre0⟩ rfl rfl hl.1 rfl (lv_room (Nat.le_of_ble_eq_true rfl)) d_F_encode_21 ⟨Nat.zero_le _, Nat.zero_le _⟩) (fun zz hz => ?_)
      subst hz
      exact W.iret hx hb hr (fun t ht hW => ⟨_, rfl, (Option.some.inj hF).symm, ht⟩) (fun q h => by cases h) d_F_encode_24
    · have hF := tx_f h7 hF
      exact J10 _ (lv_sub hl [] rfl) hF
abbrev rm_F_decode : Room := { frames := 3, cells := 0, slots := 0, locals := 68 }
set_option maxHeartbeats 4000000 in
set_option maxRecDepth 100000 in
theorem c_F_decode (l : Launch) (dC : Nat → ClassId) (dI : Nat → Nat → Nat) (cA : ClassId) (h0 q1 q2 q3 q4 q5 q6 sz : Nat) (st pl tk wd er : Nat → Int32) (nx md : Int32) (a1 : Int32) (r : Int32) (md' : Int32) (hF : f_F_decode md a1 = some (r, md')) : Met l y_F_decode ws_F_decode rm_F_decode (tx_PW [.ref h0, .int a1] (dC, dI) [(cA, .int)] (wF cA h0 q1 q2 q3 q4 q5 q6 st pl tk wd er nx md) sz) (va_Qi (S := Unit) (fun z _ => r = z) (fun _ t => va_P (dC, dI) vwCl (wF cA h0 q1 q2 q3 q4 q5 q6 st pl tk wd er nx (md')) t.heap ∧ va_D (va_A (wF cA h0 q1 q2 q3 q4 q5 q6 st pl tk wd er nx md) sz) (wF cA h0 q1 q2 q3 q4 q5 q6 st pl tk wd er nx (md'))) (va_A (wF cA h0 q1 q2 q3 q4 q5 q6 st pl tk wd er nx md) sz)) 0 0 (va_A (wF cA h0 q1 q2 q3 q4 q5 q6 st pl tk wd er nx md) sz) := by
  refine Met.ofW (cc := b_F_decode) (maxL := 3) (ret := some .int) (by decide +kernel) rfl ?_
  intro p e s m args below meth c s₁ B hml hv
  obtain ⟨hargs, hsz, hP, hK, hD0, hNw⟩ := hv
  have hx := B.exec
  have hb := B.bytes
  have hr := B.returns
  have hts := atoms_spec (ws := ws_F_decode) B.pre
  have hown : s.vm.findClass "FlashStore" = some m.cls := findClass_of_methodNamed B.named
  have hlocks := B.notSynchronized
  subst hsz
  have hD := hD0.self (sz := s.heap.size)
  generalize hAe : va_A (wF cA h0 q1 q2 q3 q4 q5 q6 st pl tk wd er nx md) s.heap.size = A at hD ⊢
  have hA : ∀ q : Nat, s.heap.size ≤ q → A q := fun q h => by rw [← hAe]; exact Or.inr h
  have hS : va_S A s.heap s.heap [] := va_S.rf
  have hP : va_P (dC, dI) vwCl (wF cA h0 q1 q2 q3 q4 q5 q6 st pl tk wd er nx md) s.heap := hP
  have w0 := (hts _ (List.mem_cons_of_mem _ bq_1_46))
  have hl := lv_entry ([.ref h0, .int a1]) (n := 3) (Nat.le_of_ble_eq_true rfl)
  have hen : entryFrame m args 3 = _ := (congrArg (fun z => entryFrame m z 3) hargs).trans (lg_entry_eq m ([.ref h0, .int a1]) 3)
  refine W.eq hen ?_
  clear hen
  generalize (lg_sl ([.ref h0, .int a1]) ++ List.replicate (3 - (lg_sl ([.ref h0, .int a1])).length) Slot.unset).toArray = ls at hl ⊢
  have hl : lv_has ls 3 [(0, .ref h0), (1, .int a1)] := hl
  have hF : (if 0 ≤ a1 then ((f_C_mend a1).bind fun r15 => if r15 = (-1 : Int32) then (none) else ((f_U_bitCount (a1 ^^^ r15)).bind fun r38 => (f_C_dataOf r15).bind fun r45 => some (r45, r38))) else (none)) = some (r, md') := hF
  refine lv_iload_n hx hb d_F_decode_0 rfl (lv_at hl 1 rfl) ?_
  refine lv_if_ge hx hb d_F_decode_1 (tgt := 14) (by decide) (fun h1 => ?_) (fun h1 => ?_)
  · have hF := tx_t h1 hF
    refine lv_iload_n hx hb d_F_decode_14 rfl (lv_at hl 1 rfl) ?_
    obtain ⟨r15, hc15, hF⟩ := tx_b hF
    refine vp_callSi (W.runS (As := [.int a1]) (rest := []) ⟨hx, hb, hml, hown, hts⟩ (c_C_mend l a1 r15 hc15) (va_cwS 1 hts (tg_S bq_1_224 bq_1_77 bq_1_9 bq_1_78) rfl rfl rfl (by decide +kernel) ⟨Nat.le_of_ble_eq_true rfl, Nat.le_of_ble_eq_true rfl⟩) ⟨tx_bl0, tx_pre0⟩ rfl rfl hl.1 rfl (lv_room (Nat.le_of_ble_eq_true rfl)) d_F_decode_15 ⟨Nat.zero_le _, Nat.zero_le _⟩) (fun zz hz => ?_)
    subst hz
    refine lv_istore_n hx hb d_F_decode_18 rfl hl (by decide) rfl (fun ls hl => ?_)
    have hl : lv_has ls 3 [(2, .int r15), (0, .ref h0), (1, .int a1)] := hl
    refine lv_iload_n hx hb d_F_decode_19 rfl (lv_at hl 0 rfl) ?_
    refine lv_iconst (v := (-1 : Int32)) hx hb d_F_decode_20 (by decide) ?_
    refine lv_icmp_ne hx hb d_F_decode_21 (tgt := 34) (by decide) (fun h21 => ?_) (fun h21 => ?_)
    · have hF := tx_f h21 hF
      refine lv_aload_n hx hb d_F_decode_34 rfl (lv_at hl 1 rfl) ?_
      refine lv_iload_n hx hb d_F_decode_35 rfl (lv_at hl 2 rfl) ?_
      refine lv_iload_n hx hb d_F_decode_36 rfl (lv_at hl 0 rfl) ?_
      refine lv_ixor hx hb d_F_decode_37 ?_
      obtain ⟨r38, hc38, hF⟩ := tx_b hF
      refine vp_callSi (W.runS (As := [.int (a1 ^^^ r15)]) (rest := [.ref h0]) ⟨hx, hb, hml, hown, hts⟩ (c_U_bitCount l (a1 ^^^ r15) r38 hc38) (va_cwS 1 hts (tg_S bq_2_1 bq_1_91 bq_1_10 bq_1_92) rfl rfl rfl (by decide +kernel) ⟨Nat.le_of_ble_eq_true rfl, Nat.le_of_ble_eq_true rfl⟩) ⟨tx_bl0, tx_pre0⟩ rfl rfl hl.1 rfl (lv_room (Nat.le_of_ble_eq_true rfl)) d_F_decode_38 ⟨Nat.zero_le _, Nat.zero_le _⟩) (fun zz hz => ?_)
      subst hz
      refine va_put (D := (dC, dI)) (ci := 1) (v := .int r38) (ty := .int) (C := "FlashStore") (T := TF) (N := 6) hx hb hts inTF tyTF tyTF_ok nmTF hown hK hP hD hS 0 rfl rfl 5 (by decide) w0 (fun _ h9 => h9) rfl (by decide +kernel) rfl rfl (Nat.le_of_ble_eq_true rfl) d_F_decode_41 (fun H locs hP hD hS => ?_)
      have hP : va_P (dC, dI) vwCl (wF cA h0 q1 q2 q3 q4 q5 q6 st pl tk wd er nx r38) H := hP
      have hD : va_D A (wF cA h0 q1 q2 q3 q4 q5 q6 st pl tk wd er nx r38) := hD
      refine lv_iload_n hx hb d_F_decode_44 rfl (lv_at hl 0 rfl) ?_
      obtain ⟨r45, hc45, hF⟩ := tx_b hF
      refine vp_callSi (W.runS (As := [.int r15]) (rest := []) ⟨hx, hb, hml, hown, hts⟩ (c_C_dataOf l r15 r45 hc45) (va_cwS 1 hts (tg_S bq_2_2 bq_1_101 bq_1_9 bq_1_102) rfl rfl rfl (by decide +kernel) ⟨Nat.le_of_ble_eq_true rfl, Nat.le_of_ble_eq_true rfl⟩) ⟨tx_bl0, tx_pre0⟩ rfl rfl hl.1 rfl (lv_room (Nat.le_of_ble_eq_true rfl)) d_F_decode_45 ⟨Nat.zero_le _, Nat.zero_le _⟩) (fun zz hz => ?_)
      subst hz
      cases hF
      exact W.iret hx hb hr (fun t ht hW => ⟨⟨_, (), rfl, rfl, by rw [ht]; exact hP, hD⟩, hS.F ht⟩) hS.2.2 d_F_decode_48
    · have hF := tx_t h21 hF
      cases hF
  · have hF := tx_f h1 hF
    cases hF
