def f_L_encode (ou : Nat → Int64) (a1 : Int32) : Option (Int32 × (Nat → Int64)) := (x_F_encode a1).elim ((f_F_encode a1).bind fun r4 => if (0 : Int32) < 0 ∨ 1 ≤ (0 : Int32).toNatClampNeg then none else some ((0 : Int32), (vp_updL ou (0 : Int32).toNatClampNeg r4.toInt64))) (fun xk => if xk = 0 then (some ((1 : Int32), ou)) else (none))
abbrev rm_L_encode : Room := { frames := 7, cells := 1, slots := 6, locals := 131 }
set_option maxHeartbeats 4000000 in
set_option maxRecDepth 100000 in
theorem c_L_encode (l : Launch) (dC : Nat → ClassId) (dI : Nat → Nat → Nat) (cA cL : ClassId) (h0 q1 q2 q3 q4 q5 q6 qo sz : Nat) (st pl tk wd er : Nat → Int32) (nx md : Int32) (ou : Nat → Int64) (a1 : Int32) (r : Int32) (ou' : Nat → Int64) (hF : f_L_encode ou a1 = some (r, ou')) (hfl : l.flags = pinnedFlags ++ [noTraceFlag]) : Met l y_L_encode ws_L_encode rm_L_encode (tx_PH [.ref h0, .int a1, .ref qo] (dC, dI) [(cA, .int), (cL, .long)] (wH cA cL h0 q1 q2 q3 q4 q5 q6 qo st pl tk wd er nx md ou) sz) (va_Qi (S := Unit) (fun z _ => r = z) (fun _ t => va_P (dC, dI) vwCl (wH cA cL h0 q1 q2 q3 q4 q5 q6 qo st pl tk wd er nx md (ou')) t.heap ∧ va_D (va_A (wH cA cL h0 q1 q2 q3 q4 q5 q6 qo st pl tk wd er nx md ou) sz) (wH cA cL h0 q1 q2 q3 q4 q5 q6 qo st pl tk wd er nx md (ou'))) (va_A (wH cA cL h0 q1 q2 q3 q4 q5 q6 qo st pl tk wd er nx md ou) sz)) 1 6 (va_A (wH cA cL h0 q1 q2 q3 q4 q5 q6 qo st pl tk wd er nx md ou) sz) := by
  refine va_MetW (cc := b_L_encode) (maxL := 4) (ret := some .int) (hh := [((0 : Nat), (9 : Nat), (12 : Nat), (13 : Nat))]) (by decide +kernel) rfl ?_
  intro p e s m args below meth c s₁ B hml hv
  obtain ⟨hargs, hsz, hP, hK, hD0, hNw, hE⟩ := hv
  have hx := B.exec
  have hb := B.bytes
  have hr := B.returns
  have hts := atoms_spec (ws := ws_L_encode) B.pre
  have hown : s.vm.findClass "FlashStoreLaw" = some m.cls := findClass_of_methodNamed B.named
  have hlocks := B.notSynchronized
  subst hsz
  have hD := hD0.self (sz := s.heap.size)
  generalize hAe : va_A (wH cA cL h0 q1 q2 q3 q4 q5 q6 qo st pl tk wd er nx md ou) s.heap.size = A at hD ⊢
  have hA : ∀ q : Nat, s.heap.size ≤ q → A q := fun q h => by rw [← hAe]; exact Or.inr h
  have hS : va_S A s.heap s.heap [] := va_S.rf
  have hP : va_P (dC, dI) vwCl (wH cA cL h0 q1 q2 q3 q4 q5 q6 qo st pl tk wd er nx md ou) s.heap := hP
  have hK1 : va_K (dC, dI) vwCl [(cA, .int)] s := hK.sub [0] rfl
  have htab := tx_table B (hts _ List.mem_cons_self)
  have w0 := (hts _ (List.mem_cons_of_mem _ bq_1_139))
  have hl := lv_entry ([.ref h0, .int a1, .ref qo]) (n := 4) (Nat.le_of_ble_eq_true rfl)
  have hen : entryFrame m args 4 = _ := (congrArg (fun z => entryFrame m z 4) hargs).trans (lg_entry_eq m ([.ref h0, .int a1, .ref qo]) 4)
  refine W.eq hen ?_
  clear hen
  generalize (lg_sl ([.ref h0, .int a1, .ref qo]) ++ List.replicate (4 - (lg_sl ([.ref h0, .int a1, .ref qo])).length) Slot.unset).toArray = ls at hl ⊢
  have hl : lv_has ls 4 [(0, .ref h0), (1, .int a1), (2, .ref qo)] := hl
  have hF : ((x_F_encode a1).elim ((f_F_encode a1).bind fun r4 => if (0 : Int32) < 0 ∨ 1 ≤ (0 : Int32).toNatClampNeg then none else some ((0 : Int32), (vp_updL ou (0 : Int32).toNatClampNeg r4.toInt64))) (fun xk => if xk = 0 then (some ((1 : Int32), ou)) else (none))) = some (r, ou') := hF
  refine lv_aload_n hx hb d_L_encode_0 rfl (lv_at hl 2 rfl) ?_
  refine lv_iconst (v := (0 : Int32)) hx hb d_L_encode_1 (by decide) ?_
  refine lv_aload_n hx hb d_L_encode_2 rfl (lv_at hl 0 rfl) ?_
  refine lv_iload_n hx hb d_L_encode_3 rfl (lv_at hl 1 rfl) ?_
  rcases tx_or2 hF with ⟨xk, hX, hF⟩ | hF
  · by_cases hk0 : xk = 0
    · have hF := tx_t hk0 hF
      subst hk0
      refine tx_callV (As := [.int a1]) (rest := [.int (0 : Int32), .ref qo]) ⟨hx, hb, hml, hown, hts⟩ (cx_F_encode l dC dI cA h0 q1 q2 q3 q4 q5 q6 st pl tk wd er nx md a1 0 hX hfl) (cwV 1 hts (tg_V bq_1_140 bq_1_141 bq_1_142 bq_1_1 bq_1_143) rfl rfl rfl (by decide +kernel) ⟨Nat.le_of_ble_eq_true rfl, Nat.le_of_ble_eq_true rfl⟩) ⟨tx_blX, (va_recv (ci := 1) (q0 := 0) hK hP rfl rfl), tx_preX (hP.sub (ws' := (wF cA h0 q1 q2 q3 q4 q5 q6 st pl tk wd er nx md)) [0, 1, 2, 3, 4, 5, 6] rfl) hK1 hE⟩ rfl hl.1 (lv_room (Nat.le_of_ble_eq_true rfl)) d_L_encode_4 ⟨Nat.le_of_ble_eq_true rfl, Nat.le_of_ble_eq_true rfl⟩ [] ⟨0, 9, 12, 13⟩ [] htab (fun _ h => nomatch h) (by decide) ⟨by decide, _, w0, tx_cast0 hE⟩ rfl (fun ax H hz1 hk1 => ?_)
      have hS := tx_S1 hS hz1 hk1
      have hP := tx_kp hP hk1
      refine lv_astore_n hx hb d_L_encode_12 rfl hl (by decide) rfl (fun ls hl => ?_)
      have hl : lv_has ls 4 [(3, .ref ax), (0, .ref h0), (1, .int a1), (2, .ref qo)] := hl
      refine lv_iconst (v := (1 : Int32)) hx hb d_L_encode_13 (by decide) ?_
      cases hF
      exact W.iret hx hb hr (fun t ht hW => ⟨⟨_, (), rfl, rfl, by rw [ht]; exact hP, hD⟩, hS.F ht⟩) hS.2.2 d_L_encode_14
    · have hF := tx_f hk0 hF
      cases hF
  · obtain ⟨r4, hc4, hF⟩ := tx_b hF
    refine vp_callSi (W.runV (As := [.int a1]) (rest := [.int (0 : Int32), .ref qo]) ⟨hx, hb, hml, hown, hts⟩ (c_F_encode l dC dI cA h0 q1 q2 q3 q4 q5 q6 st pl tk wd er nx md a1 r4 hc4) (cwV 1 hts (tg_V bq_1_140 bq_1_141 bq_1_142 bq_1_1 bq_1_143) rfl rfl rfl (by decide +kernel) ⟨Nat.le_of_ble_eq_true rfl, Nat.le_of_ble_eq_true rfl⟩) ⟨tx_blR, (va_recv (ci := 1) (q0 := 0) hK hP rfl rfl), tx_preR (hP.sub (ws' := (wF cA h0 q1 q2 q3 q4 q5 q6 st pl tk wd er nx md)) [0, 1, 2, 3, 4, 5, 6] rfl) hK1⟩ rfl rfl hl.1 rfl (lv_room (Nat.le_of_ble_eq_true rfl)) d_L_encode_4 ⟨Nat.zero_le _, Nat.zero_le _⟩) (fun zz hz => ?_)
    subst hz
    refine lv_i2l hx hb d_L_encode_7 rfl ?_
    obtain ⟨hi8, hF⟩ := tx_g hF
    refine va_last hx hb hK hP hD hS 7 1 rfl rfl hi8 d_L_encode_8 (fun H locs hP hD hS => ?_)
    have hP : va_P (dC, dI) vwCl (wH cA cL h0 q1 q2 q3 q4 q5 q6 qo st pl tk wd er nx md (vp_updL ou (0 : Int32).toNatClampNeg r4.toInt64)) H := hP
    have hD : va_D A (wH cA cL h0 q1 q2 q3 q4 q5 q6 qo st pl tk wd er nx md (vp_updL ou (0 : Int32).toNatClampNeg r4.toInt64)) := hD
    refine lv_goto hx hb d_L_encode_9 (tgt := 15) (by decide) ?_
    refine lv_iconst (v := (0 : Int32)) hx hb d_L_encode_15 (by decide) ?_
    cases hF
    refine W.widen (k := 1) (n := 6) (by decide) (by decide) ?_
    exact W.iret hx hb hr (fun t ht hW => ⟨⟨_, (), rfl, rfl, by rw [ht]; exact hP, hD⟩, hS.F ht⟩) hS.2.2 d_L_encode_16
def f_L_decode (md : Int32) (ou : Nat → Int64) (a1 : Int32) : Option (Int32 × Int32 × (Nat → Int64)) := (x_F_decode a1).elim ((f_F_decode md a1).bind fun (r4, md4) => if (0 : Int32) < 0 ∨ 1 ≤ (0 : Int32).toNatClampNeg then none else some ((0 : Int32), md4, (vp_updL ou (0 : Int32).toNatClampNeg r4.toInt64))) (fun xk => if xk = 0 then (some ((1 : Int32), md, ou)) else (if xk = 2 then (some ((2 : Int32), md, ou)) else (none)))
abbrev rm_L_decode : Room := { frames := 7, cells := 1, slots := 6, locals := 132 }
set_option maxHeartbeats 4000000 in
set_option maxRecDepth 100000 in
theorem c_L_decode (l : Launch) (dC : Nat → ClassId) (dI : Nat → Nat → Nat) (cA cL : ClassId) (h0 q1 q2 q3 q4 q5 q6 qo sz : Nat) (st pl tk wd er : Nat → Int32) (nx md : Int32) (ou : Nat → Int64) (a1 : Int32) (r : Int32) (md' : Int32) (ou' : Nat → Int64) (hF : f_L_decode md ou a1 = some (r, md', ou')) (hfl : l.flags = pinnedFlags ++ [noTraceFlag]) : Met l y_L_decode ws_L_decode rm_L_decode (tx_PH [.ref h0, .int a1, .ref qo] (dC, dI) [(cA, .int), (cL, .long)] (wH cA cL h0 q1 q2 q3 q4 q5 q6 qo st pl tk wd er nx md ou) sz) (va_Qi (S := Unit) (fun z _ => r = z) (fun _ t => va_P (dC, dI) vwCl (wH cA cL h0 q1 q2 q3 q4 q5 q6 qo st pl tk wd er nx (md') (ou')) t.heap ∧ va_D (va_A (wH cA cL h0 q1 q2 q3 q4 q5 q6 qo st pl tk wd er nx md ou) sz) (wH cA cL h0 q1 q2 q3 q4 q5 q6 qo st pl tk wd er nx (md') (ou'))) (va_A (wH cA cL h0 q1 q2 q3 q4 q5 q6 qo st pl tk wd er nx md ou) sz)) 1 6 (va_A (wH cA cL h0 q1 q2 q3 q4 q5 q6 qo st pl tk wd er nx md ou) sz) := by
  refine va_MetW (cc := b_L_decode) (maxL := 4) (ret := some .int) (hh := [((0 : Nat), (9 : Nat), (12 : Nat), (13 : Nat)), ((0 : Nat), (9 : Nat), (15 : Nat), (18 : Nat))]) (by decide +kernel) rfl ?_
  intro p e s m args below meth c s₁ B hml hv
  obtain ⟨hargs, hsz, hP, hK, hD0, hNw, hE⟩ := hv
  have hx := B.exec
  have hb := B.bytes
  have hr := B.returns
  have hts := atoms_spec (ws := ws_L_decode) B.pre
  have hown : s.vm.findClass "FlashStoreLaw" = some m.cls := findClass_of_methodNamed B.named
  have hlocks := B.notSynchronized
  subst hsz
  have hD := hD0.self (sz := s.heap.size)
  generalize hAe : va_A (wH cA cL h0 q1 q2 q3 q4 q5 q6 qo st pl tk wd er nx md ou) s.heap.size = A at hD ⊢
  have hA : ∀ q : Nat, s.heap.size ≤ q → A q := fun q h => by rw [← hAe]; exact Or.inr h
  have hS : va_S A s.heap s.heap [] := va_S.rf
  have hP : va_P (dC, dI) vwCl (wH cA cL h0 q1 q2 q3 q4 q5 q6 qo st pl tk wd er nx md ou) s.heap := hP
  have hK1 : va_K (dC, dI) vwCl [(cA, .int)] s := hK.sub [0] rfl
  have htab := tx_table B (hts _ List.mem_cons_self)
  have w0 := (hts _ (List.mem_cons_of_mem _ bq_1_139))
  have w1 := (hts _ (List.mem_cons_of_mem _ bq_1_218))
  have hl := lv_entry ([.ref h0, .int a1, .ref qo]) (n := 4) (Nat.le_of_ble_eq_true rfl)
  have hen : entryFrame m args 4 = _ := (congrArg (fun z => entryFrame m z 4) hargs).trans (lg_entry_eq m ([.ref h0, .int a1, .ref qo]) 4)
  refine W.eq hen ?_
  clear hen
  generalize (lg_sl ([.ref h0, .int a1, .ref qo]) ++ List.replicate (4 - (lg_sl ([.ref h0, .int a1, .ref qo])).length) Slot.unset).toArray = ls at hl ⊢
  have hl : lv_has ls 4 [(0, .ref h0), (1, .int a1), (2, .ref qo)] := hl
  have hF : ((x_F_decode a1).elim ((f_F_decode md a1).bind fun (r4, md4) => if (0 : Int32) < 0 ∨ 1 ≤ (0 : Int32).toNatClampNeg then none else some ((0 : Int32), md4, (vp_updL ou (0 : Int32).toNatClampNeg r4.toInt64))) (fun xk => if xk = 0 then (some ((1 : Int32), md, ou)) else (if xk = 2 then (some ((2 : Int32), md, ou)) else (none)))) = some (r, md', ou') := hF
  refine lv_aload_n hx hb d_L_decode_0 rfl (lv_at hl 2 rfl) ?_
  refine lv_iconst (v := (0 : Int32)) hx hb d_L_decode_1 (by decide) ?_
  refine lv_aload_n hx hb d_L_decode_2 rfl (lv_at hl 0 rfl) ?_
  refine lv_iload_n hx hb d_L_decode_3 rfl (lv_at hl 1 rfl) ?_
  rcases tx_or2 hF with ⟨xk, hX, hF⟩ | hF
  · by_cases hk0 : xk = 0
    · have hF := tx_t hk0 hF
      subst hk0
      refine tx_callV (As := [.int a1]) (rest := [.int (0 : Int32), .ref qo]) ⟨hx, hb, hml, hown, hts⟩ (cx_F_decode l dC dI cA h0 q1 q2 q3 q4 q5 q6 st pl tk wd er nx md a1 0 hX hfl) (cwV 1 hts (tg_V bq_1_219 bq_1_220 bq_1_221 bq_1_1 bq_1_222) rfl rfl rfl (by decide +kernel) ⟨Nat.le_of_ble_eq_true rfl, Nat.le_of_ble_eq_true rfl⟩) ⟨tx_blX, (va_recv (ci := 1) (q0 := 0) hK hP rfl rfl), tx_preX (hP.sub (ws' := (wF cA h0 q1 q2 q3 q4 q5 q6 st pl tk wd er nx md)) [0, 1, 2, 3, 4, 5, 6] rfl) hK1 hE⟩ rfl hl.1 (lv_room (Nat.le_of_ble_eq_true rfl)) d_L_decode_4 ⟨Nat.le_of_ble_eq_true rfl, Nat.le_of_ble_eq_true rfl⟩ [] ⟨0, 9, 12, 13⟩ [⟨0, 9, 15, 18⟩] htab (fun _ h => nomatch h) (by decide) ⟨by decide, _, w0, tx_cast0 hE⟩ rfl (fun ax H hz1 hk1 => ?_)
      have hS := tx_S1 hS hz1 hk1
      have hP := tx_kp hP hk1
      refine lv_astore_n hx hb d_L_decode_12 rfl hl (by decide) rfl (fun ls hl => ?_)
      have hl : lv_has ls 4 [(3, .ref ax), (0, .ref h0), (1, .int a1), (2, .ref qo)] := hl
      refine lv_iconst (v := (1 : Int32)) hx hb d_L_decode_13 (by decide) ?_
      cases hF
      exact W.iret hx hb hr (fun t ht hW => ⟨⟨_, (), rfl, rfl, by rw [ht]; exact hP, hD⟩, hS.F ht⟩) hS.2.2 d_L_decode_14
    · have hF := tx_f hk0 hF
      by_cases hk1 : xk = 2
      · have hF := tx_t hk1 hF
        subst hk1
        refine tx_callV (As := [.int a1]) (rest := [.int (0 : Int32), .ref qo]) ⟨hx, hb, hml, hown, hts⟩ (cx_F_decode l dC dI cA h0 q1 q2 q3 q4 q5 q6 st pl tk wd er nx md a1 2 hX hfl) (cwV 1 hts (tg_V bq_1_219 bq_1_220 bq_1_221 bq_1_1 bq_1_222) rfl rfl rfl (by decide +kernel) ⟨Nat.le_of_ble_eq_true rfl, Nat.le_of_ble_eq_true rfl⟩) ⟨tx_blX, (va_recv (ci := 1) (q0 := 0) hK hP rfl rfl), tx_preX (hP.sub (ws' := (wF cA h0 q1 q2 q3 q4 q5 q6 st pl tk wd er nx md)) [0, 1, 2, 3, 4, 5, 6] rfl) hK1 hE⟩ rfl hl.1 (lv_room (Nat.le_of_ble_eq_true rfl)) d_L_decode_4 ⟨Nat.le_of_ble_eq_true rfl, Nat.le_of_ble_eq_true rfl⟩ [⟨0, 9, 12, 13⟩] ⟨0, 9, 15, 18⟩ [] htab (tx_p1 (tx_ps (by decide) (by decide) w0 (tx_nc hE (by decide)))) (by decide) ⟨by decide, _, w1, tx_cast2 hE⟩ rfl (fun ax H hz1 hk1 => ?_)
        have hS := tx_S1 hS hz1 hk1
        have hP := tx_kp hP hk1
        refine lv_astore_n hx hb d_L_decode_15 rfl hl (by decide) rfl (fun ls hl => ?_)
        have hl : lv_has ls 4 [(3, .ref ax), (0, .ref h0), (1, .int a1), (2, .ref qo)] := hl
        refine lv_iconst (v := (2 : Int32)) hx hb d_L_decode_16 (by decide) ?_
        cases hF
        exact W.iret hx hb hr (fun t ht hW => ⟨⟨_, (), rfl, rfl, by rw [ht]; exact hP, hD⟩, hS.F ht⟩) hS.2.2 d_L_decode_17
      · have hF := tx_f hk1 hF
        cases hF
  · obtain ⟨⟨r4, md4⟩, hc4, hF⟩ := tx_b hF
    try dsimp only at hF
    have hPc := hP.sub (ws' := (wF cA h0 q1 q2 q3 q4 q5 q6 st pl tk wd er nx md)) [0, 1, 2, 3, 4, 5, 6] rfl
    have hDc := hD.sub (ws' := (wF cA h0 q1 q2 q3 q4 q5 q6 st pl tk wd er nx md)) [0, 1, 2, 3, 4, 5, 6] (by decide) rfl
    have hFc := va_free (wc := (wF cA h0 q1 q2 q3 q4 q5 q6 st pl tk wd er nx md)) hD hS hA [0, 1, 2, 3, 4, 5, 6] rfl
    refine va_calli (va_runV (As := [.int a1]) (rest := [.int (0 : Int32), .ref qo]) ⟨hx, hb, hml, hown, hts⟩ (c_F_decode l dC dI cA h0 q1 q2 q3 q4 q5 q6 s.heap.size st pl tk wd er nx md a1 r4 md4 hc4) (cwV 1 hts (tg_V bq_1_219 bq_1_220 bq_1_221 bq_1_1 bq_1_222) rfl rfl rfl (by decide +kernel) ⟨Nat.le_of_ble_eq_true rfl, Nat.le_of_ble_eq_true rfl⟩) ⟨tx_blW, (va_recv (ci := 1) (q0 := 0) hK hP rfl rfl), tx_preW hPc hDc hK1 hNw⟩ rfl rfl hl.1 rfl (lv_room (Nat.le_of_ble_eq_true rfl)) d_L_decode_4 ⟨Nat.zero_le _, Nat.zero_le _⟩) hS (fun q _ h => hFc q h) hFc (fun zz _u t H locs ht hvm hw hB hz1 hk1 hS => ?_)
    subst hw
    obtain ⟨hP1, hD1⟩ := hB
    rw [ht] at hP1
    obtain ⟨hP2, hD2⟩ := va_join (wr := [(qo, .inl (cL, 1, .inr (.inl ou)))]) (w1 := (wF cA h0 q1 q2 q3 q4 q5 q6 st pl tk wd er nx md4)) hP hD [0, 1, 2, 3, 4, 5, 6] [7] rfl rfl (by decide) (by decide) hk1 hFc hP1 hD1
    have hP := hP2.sub (ws' := (wH cA cL h0 q1 q2 q3 q4 q5 q6 qo st pl tk wd er nx md4 ou)) [1, 2, 3, 4, 5, 6, 7, 0] rfl
    have hD := hD2.sub (ws' := (wH cA cL h0 q1 q2 q3 q4 q5 q6 qo st pl tk wd er nx md4 ou)) [1, 2, 3, 4, 5, 6, 7, 0] (by decide) rfl
    refine lv_i2l hx hb d_L_decode_7 rfl ?_
    obtain ⟨hi8, hF⟩ := tx_g hF
    refine va_last hx hb hK hP hD hS 7 1 rfl rfl hi8 d_L_decode_8 (fun H locs hP hD hS => ?_)
    have hP : va_P (dC, dI) vwCl (wH cA cL h0 q1 q2 q3 q4 q5 q6 qo st pl tk wd er nx md4 (vp_updL ou (0 : Int32).toNatClampNeg r4.toInt64)) H := hP
    have hD : va_D A (wH cA cL h0 q1 q2 q3 q4 q5 q6 qo st pl tk wd er nx md4 (vp_updL ou (0 : Int32).toNatClampNeg r4.toInt64)) := hD
    refine lv_goto hx hb d_L_decode_9 (tgt := 18) (by decide) ?_
    refine lv_iconst (v := (0 : Int32)) hx hb d_L_decode_18 (by decide) ?_
    cases hF
    refine W.widen (k := 1) (n := 6) (by decide) (by decide) ?_
    exact W.iret hx hb hr (fun t ht hW => ⟨⟨_, (), rfl, rfl, by rw [ht]; exact hP, hD⟩, hS.F ht⟩) hS.2.2 d_L_decode_19
def f_L_write (st : Nat → Int32) (pl : Nat → Int32) (wd : Nat → Int32) (er : Nat → Int32) (nx : Int32) (a1 : Int32) (a2 : Int64) : Option (Int32 × (Nat → Int32) × (Nat → Int32) × (Nat → Int32) × (Nat → Int32) × Int32) := (x_F_write st pl wd er nx a1 a2).elim ((f_F_write st pl wd er nx a1 a2).bind fun (st3, pl3, wd3, er3, nx3) => some ((0 : Int32), st3, pl3, wd3, er3, nx3)) (fun xk => if xk = 0 then (some ((1 : Int32), st, pl, wd, er, nx)) else (if xk = 1 then (some ((2 : Int32), st, pl, wd, er, nx)) else (none)))
abbrev rm_L_write : Room := { frames := 8, cells := 1, slots := 6, locals := 184 }
set_option maxHeartbeats 4000000 in
set_option maxRecDepth 100000 in
theorem c_L_write (l : Launch) (dC : Nat → ClassId) (dI : Nat → Nat → Nat) (cA cL : ClassId) (h0 q1 q2 q3 q4 q5 q6 qo sz : Nat) (st pl tk wd er : Nat → Int32) (nx md : Int32) (ou : Nat → Int64) (a1 : Int32) (a2 : Int64) (r : Int32) (st' : Nat → Int32) (pl' : Nat → Int32) (wd' : Nat → Int32) (er' : Nat → Int32) (nx' : Int32) (hF : f_L_write st pl wd er nx a1 a2 = some (r, st', pl', wd', er', nx')) (hfl : l.flags = pinnedFlags ++ [noTraceFlag]) : Met l y_L_write ws_L_write rm_L_write (tx_PH [.ref h0, .int a1, .long a2] (dC, dI) [(cA, .int), (cL, .long)] (wH cA cL h0 q1 q2 q3 q4 q5 q6 qo st pl tk wd er nx md ou) sz) (va_Qi (S := Unit) (fun z _ => r = z) (fun _ t => va_P (dC, dI) vwCl (wH cA cL h0 q1 q2 q3 q4 q5 q6 qo (st') (pl') tk (wd') (er') (nx') md ou) t.heap ∧ va_D (va_A (wH cA cL h0 q1 q2 q3 q4 q5 q6 qo st pl tk wd er nx md ou) sz) (wH cA cL h0 q1 q2 q3 q4 q5 q6 qo (st') (pl') tk (wd') (er') (nx') md ou)) (va_A (wH cA cL h0 q1 q2 q3 q4 q5 q6 qo st pl tk wd er nx md ou) sz)) 1 6 (va_A (wH cA cL h0 q1 q2 q3 q4 q5 q6 qo st pl tk wd er nx md ou) sz) := by
  refine va_MetW (cc := b_L_write) (maxL := 5) (ret := some .int) (hh := [((0 : Nat), (6 : Nat), (9 : Nat), (13 : Nat)), ((0 : Nat), (6 : Nat), (13 : Nat), (24 : Nat))]) (by decide +kernel) rfl ?_
  intro p e s m args below meth c s₁ B hml hv
  obtain ⟨hargs, hsz, hP, hK, hD0, hNw, hE⟩ := hv
  have hx := B.exec
  have hb := B.bytes
  have hr := B.returns
  have hts := atoms_spec (ws := ws_L_write) B.pre
  have hown : s.vm.findClass "FlashStoreLaw" = some m.cls := findClass_of_methodNamed B.named
  have hlocks := B.notSynchronized
  subst hsz
  have hD := hD0.self (sz := s.heap.size)
  generalize hAe : va_A (wH cA cL h0 q1 q2 q3 q4 q5 q6 qo st pl tk wd er nx md ou) s.heap.size = A at hD ⊢
  have hA : ∀ q : Nat, s.heap.size ≤ q → A q := fun q h => by rw [← hAe]; exact Or.inr h
  have hS : va_S A s.heap s.heap [] := va_S.rf
  have hP : va_P (dC, dI) vwCl (wH cA cL h0 q1 q2 q3 q4 q5 q6 qo st pl tk wd er nx md ou) s.heap := hP
  have hK1 : va_K (dC, dI) vwCl [(cA, .int)] s := hK.sub [0] rfl
  have htab := tx_table B (hts _ List.mem_cons_self)
  have w0 := (hts _ (List.mem_cons_of_mem _ bq_1_139))
  have w1 := (hts _ (List.mem_cons_of_mem _ bq_2_6))
  have hl := lv_entry ([.ref h0, .int a1, .long a2]) (n := 5) (Nat.le_of_ble_eq_true rfl)
  have hen : entryFrame m args 5 = _ := (congrArg (fun z => entryFrame m z 5) hargs).trans (lg_entry_eq m ([.ref h0, .int a1, .long a2]) 5)
  refine W.eq hen ?_
  clear hen
  generalize (lg_sl ([.ref h0, .int a1, .long a2]) ++ List.replicate (5 - (lg_sl ([.ref h0, .int a1, .long a2])).length) Slot.unset).toArray = ls at hl ⊢
  have hl : lv_has ls 5 [(0, .ref h0), (1, .int a1), (2, .long a2)] := hl
  have hF : ((x_F_write st pl wd er nx a1 a2).elim ((f_F_write st pl wd er nx a1 a2).bind fun (st3, pl3, wd3, er3, nx3) => some ((0 : Int32), st3, pl3, wd3, er3, nx3)) (fun xk => if xk = 0 then (some ((1 : Int32), st, pl, wd, er, nx)) else (if xk = 1 then (some ((2 : Int32), st, pl, wd, er, nx)) else (none)))) = some (r, st', pl', wd', er', nx') := hF
  refine lv_aload_n hx hb d_L_write_0 rfl (lv_at hl 0 rfl) ?_
  refine lv_iload_n hx hb d_L_write_1 rfl (lv_at hl 1 rfl) ?_
  refine lv_lload_n hx hb d_L_write_2 rfl (lv_at hl 2 rfl) ?_
  rcases tx_or2 hF with ⟨xk, hX, hF⟩ | hF
  · by_cases hk0 : xk = 0
    · have hF := tx_t hk0 hF
      subst hk0
      refine tx_callV (As := [.int a1, .long a2]) (rest := []) ⟨hx, hb, hml, hown, hts⟩ (cx_F_write l dC dI cA h0 q1 q2 q3 q4 q5 q6 st pl tk wd er nx md a1 a2 0 hX hfl) (cwV 2 hts (tg_V bq_2_7 bq_2_8 bq_2_9 bq_1_1 bq_2_10) rfl rfl rfl (by decide +kernel) ⟨Nat.le_of_ble_eq_true rfl, Nat.le_of_ble_eq_true rfl⟩) ⟨tx_blX, (va_recv (ci := 1) (q0 := 0) hK hP rfl rfl), tx_preX (hP.sub (ws' := (wF cA h0 q1 q2 q3 q4 q5 q6 st pl tk wd er nx md)) [0, 1, 2, 3, 4, 5, 6] rfl) hK1 hE⟩ rfl hl.1 (lv_room (Nat.le_of_ble_eq_true rfl)) d_L_write_3 ⟨Nat.le_of_ble_eq_true rfl, Nat.le_of_ble_eq_true rfl⟩ [] ⟨0, 6, 9, 13⟩ [⟨0, 6, 13, 24⟩] htab (fun _ h => nomatch h) (by decide) ⟨by decide, _, w0, tx_cast0 hE⟩ rfl (fun ax H hz1 hk1 => ?_)
      have hS := tx_S1 hS hz1 hk1
      have hP := tx_kp hP hk1
      refine lv_astore hx hb d_L_write_9 hl (by decide) rfl (fun ls hl => ?_)
      have hl : lv_has ls 5 [(4, .ref ax), (0, .ref h0), (1, .int a1), (2, .long a2)] := hl
      refine lv_iconst (v := (1 : Int32)) hx hb d_L_write_11 (by decide) ?_
      cases hF
      exact W.iret hx hb hr (fun t ht hW => ⟨⟨_, (), rfl, rfl, by rw [ht]; exact hP, hD⟩, hS.F ht⟩) hS.2.2 d_L_write_12
    · have hF := tx_f hk0 hF
      by_cases hk1 : xk = 1
      · have hF := tx_t hk1 hF
        subst hk1
        refine tx_callV (As := [.int a1, .long a2]) (rest := []) ⟨hx, hb, hml, hown, hts⟩ (cx_F_write l dC dI cA h0 q1 q2 q3 q4 q5 q6 st pl tk wd er nx md a1 a2 1 hX hfl) (cwV 2 hts (tg_V bq_2_7 bq_2_8 bq_2_9 bq_1_1 bq_2_10) rfl rfl rfl (by decide +kernel) ⟨Nat.le_of_ble_eq_true rfl, Nat.le_of_ble_eq_true rfl⟩) ⟨tx_blX, (va_recv (ci := 1) (q0 := 0) hK hP rfl rfl), tx_preX (hP.sub (ws' := (wF cA h0 q1 q2 q3 q4 q5 q6 st pl tk wd er nx md)) [0, 1, 2, 3, 4, 5, 6] rfl) hK1 hE⟩ rfl hl.1 (lv_room (Nat.le_of_ble_eq_true rfl)) d_L_write_3 ⟨Nat.le_of_ble_eq_true rfl, Nat.le_of_ble_eq_true rfl⟩ [⟨0, 6, 9, 13⟩] ⟨0, 6, 13, 24⟩ [] htab (tx_p1 (tx_ps (by decide) (by decide) w0 (tx_nc hE (by decide)))) (by decide) ⟨by decide, _, w1, tx_cast1 hE⟩ rfl (fun ax H hz1 hk1 => ?_)
        have hS := tx_S1 hS hz1 hk1
        have hP := tx_kp hP hk1
        refine lv_astore hx hb d_L_write_13 hl (by decide) rfl (fun ls hl => ?_)
        have hl : lv_has ls 5 [(4, .ref ax), (0, .ref h0), (1, .int a1), (2, .long a2)] := hl
        refine lv_iconst (v := (2 : Int32)) hx hb d_L_write_15 (by decide) ?_
        cases hF
        exact W.iret hx hb hr (fun t ht hW => ⟨⟨_, (), rfl, rfl, by rw [ht]; exact hP, hD⟩, hS.F ht⟩) hS.2.2 d_L_write_16
      · have hF := tx_f hk1 hF
        cases hF
  · obtain ⟨⟨st3, pl3, wd3, er3, nx3⟩, hc3, hF⟩ := tx_b hF
    try dsimp only at hF
    have hPc := hP.sub (ws' := (wF cA h0 q1 q2 q3 q4 q5 q6 st pl tk wd er nx md)) [0, 1, 2, 3, 4, 5, 6] rfl
    have hDc := hD.sub (ws' := (wF cA h0 q1 q2 q3 q4 q5 q6 st pl tk wd er nx md)) [0, 1, 2, 3, 4, 5, 6] (by decide) rfl
    have hFc := va_free (wc := (wF cA h0 q1 q2 q3 q4 q5 q6 st pl tk wd er nx md)) hD hS hA [0, 1, 2, 3, 4, 5, 6] rfl
    refine va_callv (va_runV (As := [.int a1, .long a2]) (rest := []) ⟨hx, hb, hml, hown, hts⟩ (c_F_write l dC dI cA h0 q1 q2 q3 q4 q5 q6 s.heap.size st pl tk wd er nx md a1 a2 st3 pl3 wd3 er3 nx3 hc3) (cwV 2 hts (tg_V bq_2_7 bq_2_8 bq_2_9 bq_1_1 bq_2_10) rfl rfl rfl (by decide +kernel) ⟨Nat.le_of_ble_eq_true rfl, Nat.le_of_ble_eq_true rfl⟩) ⟨tx_blW, (va_recv (ci := 1) (q0 := 0) hK hP rfl rfl), tx_preW hPc hDc hK1 hNw⟩ rfl rfl hl.1 rfl (lv_room (Nat.le_of_ble_eq_true rfl)) d_L_write_3 ⟨Nat.zero_le _, Nat.zero_le _⟩) hS (fun q _ h => hFc q h) hFc (fun _u t H locs ht hvm hw hB hz1 hk1 hS => ?_)
    obtain ⟨hP1, hD1⟩ := hB
    rw [ht] at hP1
    obtain ⟨hP2, hD2⟩ := va_join (wr := [(qo, .inl (cL, 1, .inr (.inl ou)))]) (w1 := (wF cA h0 q1 q2 q3 q4 q5 q6 st3 pl3 tk wd3 er3 nx3 md)) hP hD [0, 1, 2, 3, 4, 5, 6] [7] rfl rfl (by decide) (by decide) hk1 hFc hP1 hD1
    have hP := hP2.sub (ws' := (wH cA cL h0 q1 q2 q3 q4 q5 q6 qo st3 pl3 tk wd3 er3 nx3 md ou)) [1, 2, 3, 4, 5, 6, 7, 0] rfl
    have hD := hD2.sub (ws' := (wH cA cL h0 q1 q2 q3 q4 q5 q6 qo st3 pl3 tk wd3 er3 nx3 md ou)) [1, 2, 3, 4, 5, 6, 7, 0] (by decide) rfl
    refine lv_goto hx hb d_L_write_6 (tgt := 17) (by decide) ?_
    refine lv_iconst (v := (0 : Int32)) hx hb d_L_write_17 (by decide) ?_
    cases hF
    refine W.widen (k := 1) (n := 6) (by decide) (by decide) ?_
    exact W.iret hx hb hr (fun t ht hW => ⟨⟨_, (), rfl, rfl, by rw [ht]; exact hP, hD⟩, hS.F ht⟩) hS.2.2 d_L_write_18
def f_L_read (pl : Nat → Int32) (wd : Nat → Int32) (ou : Nat → Int64) (a1 : Int32) : Option (Int32 × (Nat → Int64)) := (x_F_read pl wd a1).elim ((f_F_read pl wd a1).bind fun r4 => if (0 : Int32) < 0 ∨ 1 ≤ (0 : Int32).toNatClampNeg then none else some ((0 : Int32), (vp_updL ou (0 : Int32).toNatClampNeg r4))) (fun xk => if xk = 0 then (some ((1 : Int32), ou)) else (if xk = 1 then (some ((2 : Int32), ou)) else (if xk = 2 then (some ((3 : Int32), ou)) else (none))))
abbrev rm_L_read : Room := { frames := 8, cells := 1, slots := 6, locals := 152 }
set_option maxHeartbeats 4000000 in
set_option maxRecDepth 100000 in
theorem c_L_read (l : Launch) (dC : Nat → ClassId) (dI : Nat → Nat → Nat) (cA cL : ClassId) (h0 q1 q2 q3 q4 q5 q6 qo sz : Nat) (st pl tk wd er : Nat → Int32) (nx md : Int32) (ou : Nat → Int64) (a1 : Int32) (r : Int32) (ou' : Nat → Int64) (hF : f_L_read pl wd ou a1 = some (r, ou')) (hfl : l.flags = pinnedFlags ++ [noTraceFlag]) : Met l y_L_read ws_L_read rm_L_read (tx_PH [.ref h0, .int a1, .ref qo] (dC, dI) [(cA, .int), (cL, .long)] (wH cA cL h0 q1 q2 q3 q4 q5 q6 qo st pl tk wd er nx md ou) sz) (va_Qi (S := Unit) (fun z _ => r = z) (fun _ t => va_P (dC, dI) vwCl (wH cA cL h0 q1 q2 q3 q4 q5 q6 qo st pl tk wd er nx md (ou')) t.heap ∧ va_D (va_A (wH cA cL h0 q1 q2 q3 q4 q5 q6 qo st pl tk wd er nx md ou) sz) (wH cA cL h0 q1 q2 q3 q4 q5 q6 qo st pl tk wd er nx md (ou'))) (va_A (wH cA cL h0 q1 q2 q3 q4 q5 q6 qo st pl tk wd er nx md ou) sz)) 1 6 (va_A (wH cA cL h0 q1 q2 q3 q4 q5 q6 qo st pl tk wd er nx md ou) sz) := by
  refine va_MetW (cc := b_L_read) (maxL := 4) (ret := some .int) (hh := [((0 : Nat), (8 : Nat), (11 : Nat), (13 : Nat)), ((0 : Nat), (8 : Nat), (14 : Nat), (24 : Nat)), ((0 : Nat), (8 : Nat), (17 : Nat), (18 : Nat))]) (by decide +kernel) rfl ?_
  intro p e s m args below meth c s₁ B hml hv
  obtain ⟨hargs, hsz, hP, hK, hD0, hNw, hE⟩ := hv
  have hx := B.exec
  have hb := B.bytes
  have hr := B.returns
  have hts := atoms_spec (ws := ws_L_read) B.pre
  have hown : s.vm.findClass "FlashStoreLaw" = some m.cls := findClass_of_methodNamed B.named
  have hlocks := B.notSynchronized
  subst hsz
  have hD := hD0.self (sz := s.heap.size)
  generalize hAe : va_A (wH cA cL h0 q1 q2 q3 q4 q5 q6 qo st pl tk wd er nx md ou) s.heap.size = A at hD ⊢
  have hA : ∀ q : Nat, s.heap.size ≤ q → A q := fun q h => by rw [← hAe]; exact Or.inr h
  have hS : va_S A s.heap s.heap [] := va_S.rf
  have hP : va_P (dC, dI) vwCl (wH cA cL h0 q1 q2 q3 q4 q5 q6 qo st pl tk wd er nx md ou) s.heap := hP
  have hK1 : va_K (dC, dI) vwCl [(cA, .int)] s := hK.sub [0] rfl
  have htab := tx_table B (hts _ List.mem_cons_self)
  have w0 := (hts _ (List.mem_cons_of_mem _ bq_1_139))
  have w1 := (hts _ (List.mem_cons_of_mem _ bq_2_6))
  have w2 := (hts _ (List.mem_cons_of_mem _ bq_1_218))
  have hl := lv_entry ([.ref h0, .int a1, .ref qo]) (n := 4) (Nat.le_of_ble_eq_true rfl)
  have hen : entryFrame m args 4 = _ := (congrArg (fun z => entryFrame m z 4) hargs).trans (lg_entry_eq m ([.ref h0, .int a1, .ref qo]) 4)
  refine W.eq hen ?_
  clear hen
  generalize (lg_sl ([.ref h0, .int a1, .ref qo]) ++ List.replicate (4 - (lg_sl ([.ref h0, .int a1, .ref qo])).length) Slot.unset).toArray = ls at hl ⊢
  have hl : lv_has ls 4 [(0, .ref h0), (1, .int a1), (2, .ref qo)] := hl
  have hF : ((x_F_read pl wd a1).elim ((f_F_read pl wd a1).bind fun r4 => if (0 : Int32) < 0 ∨ 1 ≤ (0 : Int32).toNatClampNeg then none else some ((0 : Int32), (vp_updL ou (0 : Int32).toNatClampNeg r4))) (fun xk => if xk = 0 then (some ((1 : Int32), ou)) else (if xk = 1 then (some ((2 : Int32), ou)) else (if xk = 2 then (some ((3 : Int32), ou)) else (none))))) = some (r, ou') := hF
  refine lv_aload_n hx hb d_L_read_0 rfl (lv_at hl 2 rfl) ?_
  refine lv_iconst (v := (0 : Int32)) hx hb d_L_read_1 (by decide) ?_
  refine lv_aload_n hx hb d_L_read_2 rfl (lv_at hl 0 rfl) ?_
  refine lv_iload_n hx hb d_L_read_3 rfl (lv_at hl 1 rfl) ?_
  rcases tx_or2 hF with ⟨xk, hX, hF⟩ | hF
  · by_cases hk0 : xk = 0
    · have hF := tx_t hk0 hF
      subst hk0
      refine tx_callV (As := [.int a1]) (rest := [.int (0 : Int32), .ref qo]) ⟨hx, hb, hml, hown, hts⟩ (cx_F_read l dC dI cA h0 q1 q2 q3 q4 q5 q6 st pl tk wd er nx md a1 0 hX hfl) (cwV 1 hts (tg_V bq_2_111 bq_2_112 bq_2_113 bq_1_1 bq_2_114) rfl rfl rfl (by decide +kernel) ⟨Nat.le_of_ble_eq_true rfl, Nat.le_of_ble_eq_true rfl⟩) ⟨tx_blX, (va_recv (ci := 1) (q0 := 0) hK hP rfl rfl), tx_preX (hP.sub (ws' := (wF cA h0 q1 q2 q3 q4 q5 q6 st pl tk wd er nx md)) [0, 1, 2, 3, 4, 5, 6] rfl) hK1 hE⟩ rfl hl.1 (lv_room (Nat.le_of_ble_eq_true rfl)) d_L_read_4 ⟨Nat.le_of_ble_eq_true rfl, Nat.le_of_ble_eq_true rfl⟩ [] ⟨0, 8, 11, 13⟩ [⟨0, 8, 14, 24⟩, ⟨0, 8, 17, 18⟩] htab (fun _ h => nomatch h) (by decide) ⟨by decide, _, w0, tx_cast0 hE⟩ rfl (fun ax H hz1 hk1 => ?_)
      have hS := tx_S1 hS hz1 hk1
      have hP := tx_kp hP hk1
      refine lv_astore_n hx hb d_L_read_11 rfl hl (by decide) rfl (fun ls hl => ?_)
      have hl : lv_has ls 4 [(3, .ref ax), (0, .ref h0), (1, .int a1), (2, .ref qo)] := hl
      refine lv_iconst (v := (1 : Int32)) hx hb d_L_read_12 (by decide) ?_
      cases hF
      exact W.iret hx hb hr (fun t ht hW => ⟨⟨_, (), rfl, rfl, by rw [ht]; exact hP, hD⟩, hS.F ht⟩) hS.2.2 d_L_read_13
    · have hF := tx_f hk0 hF
      by_cases hk1 : xk = 1
      · have hF := tx_t hk1 hF
        subst hk1
        refine tx_callV (As := [.int a1]) (rest := [.int (0 : Int32), .ref qo]) ⟨hx, hb, hml, hown, hts⟩ (cx_F_read l dC dI cA h0 q1 q2 q3 q4 q5 q6 st pl tk wd er nx md a1 1 hX hfl) (cwV 1 hts (tg_V bq_2_111 bq_2_112 bq_2_113 bq_1_1 bq_2_114) rfl rfl rfl (by decide +kernel) ⟨Nat.le_of_ble_eq_true rfl, Nat.le_of_ble_eq_true rfl⟩) ⟨tx_blX, (va_recv (ci := 1) (q0 := 0) hK hP rfl rfl), tx_preX (hP.sub (ws' := (wF cA h0 q1 q2 q3 q4 q5 q6 st pl tk wd er nx md)) [0, 1, 2, 3, 4, 5, 6] rfl) hK1 hE⟩ rfl hl.1 (lv_room (Nat.le_of_ble_eq_true rfl)) d_L_read_4 ⟨Nat.le_of_ble_eq_true rfl, Nat.le_of_ble_eq_true rfl⟩ [⟨0, 8, 11, 13⟩] ⟨0, 8, 14, 24⟩ [⟨0, 8, 17, 18⟩] htab (tx_p1 (tx_ps (by decide) (by decide) w0 (tx_nc hE (by decide)))) (by decide) ⟨by decide, _, w1, tx_cast1 hE⟩ rfl (fun ax H hz1 hk1 => ?_)
        have hS := tx_S1 hS hz1 hk1
        have hP := tx_kp hP hk1
        refine lv_astore_n hx hb d_L_read_14 rfl hl (by decide) rfl (fun ls hl => ?_)
        have hl : lv_has ls 4 [(3, .ref ax), (0, .ref h0), (1, .int a1), (2, .ref qo)] := hl
        refine lv_iconst (v := (2 : Int32)) hx hb d_L_read_15 (by decide) ?_
        cases hF
        exact W.iret hx hb hr (fun t ht hW => ⟨⟨_, (), rfl, rfl, by rw [ht]; exact hP, hD⟩, hS.F ht⟩) hS.2.2 d_L_read_16
      · have hF := tx_f hk1 hF
        by_cases hk2 : xk = 2
        · have hF := tx_t hk2 hF
          subst hk2
          refine tx_callV (As := [.int a1]) (rest := [.int (0 : Int32), .ref qo]) ⟨hx, hb, hml, hown, hts⟩ (cx_F_read l dC dI cA h0 q1 q2 q3 q4 q5 q6 st pl tk wd er nx md a1 2 hX hfl) (cwV 1 hts (tg_V bq_2_111 bq_2_112 bq_2_113 bq_1_1 bq_2_114) rfl rfl rfl (by decide +kernel) ⟨Nat.le_of_ble_eq_true rfl, Nat.le_of_ble_eq_true rfl⟩) ⟨tx_blX, (va_recv (ci := 1) (q0 := 0) hK hP rfl rfl), tx_preX (hP.sub (ws' := (wF cA h0 q1 q2 q3 q4 q5 q6 st pl tk wd er nx md)) [0, 1, 2, 3, 4, 5, 6] rfl) hK1 hE⟩ rfl hl.1 (lv_room (Nat.le_of_ble_eq_true rfl)) d_L_read_4 ⟨Nat.le_of_ble_eq_true rfl, Nat.le_of_ble_eq_true rfl⟩ [⟨0, 8, 11, 13⟩, ⟨0, 8, 14, 24⟩] ⟨0, 8, 17, 18⟩ [] htab (tx_p2 (tx_ps (by decide) (by decide) w0 (tx_nc hE (by decide))) (tx_ps (by decide) (by decide) w1 (tx_nc hE (by decide)))) (by decide) ⟨by decide, _, w2, tx_cast2 hE⟩ rfl (fun ax H hz1 hk1 => ?_)
          have hS := tx_S1 hS hz1 hk1
          have hP := tx_kp hP hk1
          refine lv_astore_n hx hb d_L_read_17 rfl hl (by decide) rfl (fun ls hl => ?_)
          have hl : lv_has ls 4 [(3, .ref ax), (0, .ref h0), (1, .int a1), (2, .ref qo)] := hl
          refine lv_iconst (v := (3 : Int32)) hx hb d_L_read_18 (by decide) ?_
          cases hF
          exact W.iret hx hb hr (fun t ht hW => ⟨⟨_, (), rfl, rfl, by rw [ht]; exact hP, hD⟩, hS.F ht⟩) hS.2.2 d_L_read_19
        · have hF := tx_f hk2 hF
          cases hF
  · obtain ⟨r4, hc4, hF⟩ := tx_b hF
    refine vp_callSl (W.runV (As := [.int a1]) (rest := [.int (0 : Int32), .ref qo]) ⟨hx, hb, hml, hown, hts⟩ (c_F_read l dC dI cA h0 q1 q2 q3 q4 q5 q6 st pl tk wd er nx md a1 r4 hc4) (cwV 1 hts (tg_V bq_2_111 bq_2_112 bq_2_113 bq_1_1 bq_2_114) rfl rfl rfl (by decide +kernel) ⟨Nat.le_of_ble_eq_true rfl, Nat.le_of_ble_eq_true rfl⟩) ⟨tx_blR, (va_recv (ci := 1) (q0 := 0) hK hP rfl rfl), tx_preR (hP.sub (ws' := (wF cA h0 q1 q2 q3 q4 q5 q6 st pl tk wd er nx md)) [0, 1, 2, 3, 4, 5, 6] rfl) hK1⟩ rfl rfl hl.1 rfl (lv_room (Nat.le_of_ble_eq_true rfl)) d_L_read_4 ⟨Nat.zero_le _, Nat.zero_le _⟩) (fun zz hz => ?_)
    subst hz
    obtain ⟨hi7, hF⟩ := tx_g hF
    refine va_last hx hb hK hP hD hS 7 1 rfl rfl hi7 d_L_read_7 (fun H locs hP hD hS => ?_)
    have hP : va_P (dC, dI) vwCl (wH cA cL h0 q1 q2 q3 q4 q5 q6 qo st pl tk wd er nx md (vp_updL ou (0 : Int32).toNatClampNeg r4)) H := hP
    have hD : va_D A (wH cA cL h0 q1 q2 q3 q4 q5 q6 qo st pl tk wd er nx md (vp_updL ou (0 : Int32).toNatClampNeg r4)) := hD
    refine lv_goto hx hb d_L_read_8 (tgt := 20) (by decide) ?_
    refine lv_iconst (v := (0 : Int32)) hx hb d_L_read_20 (by decide) ?_
    cases hF
    refine W.widen (k := 1) (n := 6) (by decide) (by decide) ?_
    exact W.iret hx hb hr (fun t ht hW => ⟨⟨_, (), rfl, rfl, by rw [ht]; exact hP, hD⟩, hS.F ht⟩) hS.2.2 d_L_read_21
def f_L_trim_J15 (st : Nat → Int32) (pl : Nat → Int32) (ou : Nat → Int64) (z0 : Int64) (z1 : Int32) : Option (Int32 × (Nat → Int32) × (Nat → Int32) × (Nat → Int64)) := if z1 < 0 ∨ 1 ≤ z1.toNatClampNeg then none else some ((0 : Int32), st, pl, (vp_updL ou z1.toNatClampNeg z0))
def f_L_trim (st : Nat → Int32) (pl : Nat → Int32) (ou : Nat → Int64) (a1 : Int32) : Option (Int32 × (Nat → Int32) × (Nat → Int32) × (Nat → Int64)) := (x_F_trim pl a1).elim ((f_F_trim st pl a1).bind fun (r4, st4, pl4) => if r4 = 0 then (f_L_trim_J15 st4 pl4 ou (0 : Int64) (0 : Int32)) else (f_L_trim_J15 st4 pl4 ou (1 : Int64) (0 : Int32))) (fun xk => if xk = 0 then (some ((1 : Int32), st, pl, ou)) else (none))
abbrev rm_L_trim : Room := { frames := 8, cells := 1, slots := 6, locals := 152 }
set_option maxHeartbeats 4000000 in
set_option maxRecDepth 100000 in
theorem c_L_trim (l : Launch) (dC : Nat → ClassId) (dI : Nat → Nat → Nat) (cA cL : ClassId) (h0 q1 q2 q3 q4 q5 q6 qo sz : Nat) (st pl tk wd er : Nat → Int32) (nx md : Int32) (ou : Nat → Int64) (a1 : Int32) (r : Int32) (st' : Nat → Int32) (pl' : Nat → Int32) (ou' : Nat → Int64) (hF : f_L_trim st pl ou a1 = some (r, st', pl', ou')) (hfl : l.flags = pinnedFlags ++ [noTraceFlag]) : Met l y_L_trim ws_L_trim rm_L_trim (tx_PH [.ref h0, .int a1, .ref qo] (dC, dI) [(cA, .int), (cL, .long)] (wH cA cL h0 q1 q2 q3 q4 q5 q6 qo st pl tk wd er nx md ou) sz) (va_Qi (S := Unit) (fun z _ => r = z) (fun _ t => va_P (dC, dI) vwCl (wH cA cL h0 q1 q2 q3 q4 q5 q6 qo (st') (pl') tk wd er nx md (ou')) t.heap ∧ va_D (va_A (wH cA cL h0 q1 q2 q3 q4 q5 q6 qo st pl tk wd er nx md ou) sz) (wH cA cL h0 q1 q2 q3 q4 q5 q6 qo (st') (pl') tk wd er nx md (ou'))) (va_A (wH cA cL h0 q1 q2 q3 q4 q5 q6 qo st pl tk wd er nx md ou) sz)) 1 6 (va_A (wH cA cL h0 q1 q2 q3 q4 q5 q6 qo st pl tk wd er nx md ou) sz) := by
  refine va_MetW (cc := b_L_trim) (maxL := 4) (ret := some .int) (hh := [((0 : Nat), (16 : Nat), (19 : Nat), (13 : Nat))]) (by decide +kernel) rfl ?_
  intro p e s m args below meth c s₁ B hml hv
  obtain ⟨hargs, hsz, hP, hK, hD0, hNw, hE⟩ := hv
  have hx := B.exec
  have hb := B.bytes
  have hr := B.returns
  have hts := atoms_spec (ws := ws_L_trim) B.pre
  have hown : s.vm.findClass "FlashStoreLaw" = some m.cls := findClass_of_methodNamed B.named
  have hlocks := B.notSynchronized
  subst hsz
  have hD := hD0.self (sz := s.heap.size)
  generalize hAe : va_A (wH cA cL h0 q1 q2 q3 q4 q5 q6 qo st pl tk wd er nx md ou) s.heap.size = A at hD ⊢
  have hA : ∀ q : Nat, s.heap.size ≤ q → A q := fun q h => by rw [← hAe]; exact Or.inr h
  have hS : va_S A s.heap s.heap [] := va_S.rf
  have hP : va_P (dC, dI) vwCl (wH cA cL h0 q1 q2 q3 q4 q5 q6 qo st pl tk wd er nx md ou) s.heap := hP
  have hK1 : va_K (dC, dI) vwCl [(cA, .int)] s := hK.sub [0] rfl
  have htab := tx_table B (hts _ List.mem_cons_self)
  have w0 := (hts _ (List.mem_cons_of_mem _ bq_1_139))
  have hl := lv_entry ([.ref h0, .int a1, .ref qo]) (n := 4) (Nat.le_of_ble_eq_true rfl)
  have hen : entryFrame m args 4 = _ := (congrArg (fun z => entryFrame m z 4) hargs).trans (lg_entry_eq m ([.ref h0, .int a1, .ref qo]) 4)
  refine W.eq hen ?_
  clear hen
  generalize (lg_sl ([.ref h0, .int a1, .ref qo]) ++ List.replicate (4 - (lg_sl ([.ref h0, .int a1, .ref qo])).length) Slot.unset).toArray = ls at hl ⊢
  have hl : lv_has ls 4 [(0, .ref h0), (1, .int a1), (2, .ref qo)] := hl
  have J15 : ∀ (H : Heap) (locs : List Loc) (ls : Array Slot) (st : Nat → Int32) (pl : Nat → Int32) (ou : Nat → Int64) (z0 : Int64) (z1 : Int32), va_P (dC, dI) vwCl (wH cA cL h0 q1 q2 q3 q4 q5 q6 qo st pl tk wd er nx md ou) H → va_D A (wH cA cL h0 q1 q2 q3 q4 q5 q6 qo st pl tk wd er nx md ou) → va_S A s.heap H locs → lv_has ls 4 [] → f_L_trim_J15 st pl ou z0 z1 = some (r, st', pl', ou') → W p l e (headSpec ws_L_trim rm_L_trim).room s m args below meth c H locs 0 0 (MQ below (va_Qi (S := Unit) (fun z _ => r = z) (fun _ t => va_P (dC, dI) vwCl (wH cA cL h0 q1 q2 q3 q4 q5 q6 qo (st') (pl') tk wd er nx md (ou')) t.heap ∧ va_D A (wH cA cL h0 q1 q2 q3 q4 q5 q6 qo (st') (pl') tk wd er nx md (ou'))) A) args s 1 6 A) (F0 m 15 ls [.long z0, .int z1, .ref qo]) := by
    intro H locs ls st pl ou z0 z1 hP hD hS hl hF
    have hF : (if z1 < 0 ∨ 1 ≤ z1.toNatClampNeg then none else some ((0 : Int32), st, pl, (vp_updL ou z1.toNatClampNeg z0))) = some (r, st', pl', ou') := hF
    obtain ⟨hi15, hF⟩ := tx_g hF
    refine va_last hx hb hK hP hD hS 7 1 rfl rfl hi15 d_L_trim_15 (fun H locs hP hD hS => ?_)
    have hP : va_P (dC, dI) vwCl (wH cA cL h0 q1 q2 q3 q4 q5 q6 qo st pl tk wd er nx md (vp_updL ou z1.toNatClampNeg z0)) H := hP
    have hD : va_D A (wH cA cL h0 q1 q2 q3 q4 q5 q6 qo st pl tk wd er nx md (vp_updL ou z1.toNatClampNeg z0)) := hD
    refine lv_goto hx hb d_L_trim_16 (tgt := 22) (by decide) ?_
    refine lv_iconst (v := (0 : Int32)) hx hb d_L_trim_22 (by decide) ?_
    cases hF
    refine W.widen (k := 1) (n := 6) (by decide) (by decide) ?_
    exact W.iret hx hb hr (fun t ht hW => ⟨⟨_, (), rfl, rfl, by rw [ht]; exact hP, hD⟩, hS.F ht⟩) hS.2.2 d_L_trim_23
  have hF : ((x_F_trim pl a1).elim ((f_F_trim st pl a1).bind fun (r4, st4, pl4) => if r4 = 0 then (f_L_trim_J15 st4 pl4 ou (0 : Int64) (0 : Int32)) else (f_L_trim_J15 st4 pl4 ou (1 : Int64) (0 : Int32))) (fun xk => if xk = 0 then (some ((1 : Int32), st, pl, ou)) else (none))) = some (r, st', pl', ou') := hF
  refine lv_aload_n hx hb d_L_trim_0 rfl (lv_at hl 2 rfl) ?_
  refine lv_iconst (v := (0 : Int32)) hx hb d_L_trim_1 (by decide) ?_
  refine lv_aload_n hx hb d_L_trim_2 rfl (lv_at hl 0 rfl) ?_
  refine lv_iload_n hx hb d_L_trim_3 rfl (lv_at hl 1 rfl) ?_
  rcases tx_or2 hF with ⟨xk, hX, hF⟩ | hF
  · by_cases hk0 : xk = 0
    · have hF := tx_t hk0 hF
      subst hk0
      refine tx_callV (As := [.int a1]) (rest := [.int (0 : Int32), .ref qo]) ⟨hx, hb, hml, hown, hts⟩ (cx_F_trim l dC dI cA h0 q1 q2 q3 q4 q5 q6 st pl tk wd er nx md a1 0 hX hfl) (cwV 1 hts (tg_V bq_2_120 bq_2_121 bq_2_122 bq_1_1 bq_2_123) rfl rfl rfl (by decide +kernel) ⟨Nat.le_of_ble_eq_true rfl, Nat.le_of_ble_eq_true rfl⟩) ⟨tx_blX, (va_recv (ci := 1) (q0 := 0) hK hP rfl rfl), tx_preX (hP.sub (ws' := (wF cA h0 q1 q2 q3 q4 q5 q6 st pl tk wd er nx md)) [0, 1, 2, 3, 4, 5, 6] rfl) hK1 hE⟩ rfl hl.1 (lv_room (Nat.le_of_ble_eq_true rfl)) d_L_trim_4 ⟨Nat.le_of_ble_eq_true rfl, Nat.le_of_ble_eq_true rfl⟩ [] ⟨0, 16, 19, 13⟩ [] htab (fun _ h => nomatch h) (by decide) ⟨by decide, _, w0, tx_cast0 hE⟩ rfl (fun ax H hz1 hk1 => ?_)
      have hS := tx_S1 hS hz1 hk1
      have hP := tx_kp hP hk1
      refine lv_astore_n hx hb d_L_trim_19 rfl hl (by decide) rfl (fun ls hl => ?_)
      have hl : lv_has ls 4 [(3, .ref ax), (0, .ref h0), (1, .int a1), (2, .ref qo)] := hl
      refine lv_iconst (v := (1 : Int32)) hx hb d_L_trim_20 (by decide) ?_
      cases hF
      exact W.iret hx hb hr (fun t ht hW => ⟨⟨_, (), rfl, rfl, by rw [ht]; exact hP, hD⟩, hS.F ht⟩) hS.2.2 d_L_trim_21
    · have hF := tx_f hk0 hF
      cases hF
  · obtain ⟨⟨r4, st4, pl4⟩, hc4, hF⟩ := tx_b hF
    try dsimp only at hF
    have hPc := hP.sub (ws' := (wF cA h0 q1 q2 q3 q4 q5 q6 st pl tk wd er nx md)) [0, 1, 2, 3, 4, 5, 6] rfl
    have hDc := hD.sub (ws' := (wF cA h0 q1 q2 q3 q4 q5 q6 st pl tk wd er nx md)) [0, 1, 2, 3, 4, 5, 6] (by decide) rfl
    have hFc := va_free (wc := (wF cA h0 q1 q2 q3 q4 q5 q6 st pl tk wd er nx md)) hD hS hA [0, 1, 2, 3, 4, 5, 6] rfl
    refine va_calli (va_runV (As := [.int a1]) (rest := [.int (0 : Int32), .ref qo]) ⟨hx, hb, hml, hown, hts⟩ (c_F_trim l dC dI cA h0 q1 q2 q3 q4 q5 q6 s.heap.size st pl tk wd er nx md a1 r4 st4 pl4 hc4) (cwV 1 hts (tg_V bq_2_120 bq_2_121 bq_2_122 bq_1_1 bq_2_123) rfl rfl rfl (by decide +kernel) ⟨Nat.le_of_ble_eq_true rfl, Nat.le_of_ble_eq_true rfl⟩) ⟨tx_blW, (va_recv (ci := 1) (q0 := 0) hK hP rfl rfl), tx_preW hPc hDc hK1 hNw⟩ rfl rfl hl.1 rfl (lv_room (Nat.le_of_ble_eq_true rfl)) d_L_trim_4 ⟨Nat.zero_le _, Nat.zero_le _⟩) hS (fun q _ h => hFc q h) hFc (fun zz _u t H locs ht hvm hw hB hz1 hk1 hS => ?_)
    subst hw
    obtain ⟨hP1, hD1⟩ := hB
    rw [ht] at hP1
    obtain ⟨hP2, hD2⟩ := va_join (wr := [(qo, .inl (cL, 1, .inr (.inl ou)))]) (w1 := (wF cA h0 q1 q2 q3 q4 q5 q6 st4 pl4 tk wd er nx md)) hP hD [0, 1, 2, 3, 4, 5, 6] [7] rfl rfl (by decide) (by decide) hk1 hFc hP1 hD1
    have hP := hP2.sub (ws' := (wH cA cL h0 q1 q2 q3 q4 q5 q6 qo st4 pl4 tk wd er nx md ou)) [1, 2, 3, 4, 5, 6, 7, 0] rfl
    have hD := hD2.sub (ws' := (wH cA cL h0 q1 q2 q3 q4 q5 q6 qo st4 pl4 tk wd er nx md ou)) [1, 2, 3, 4, 5, 6, 7, 0] (by decide) rfl
    refine lv_if_eq hx hb d_L_trim_7 (tgt := 14) (by decide) (fun h7 => ?_) (fun h7 => ?_)
    · have hF := tx_t h7 hF
      refine lv_lconst (v := (0 : Int64)) hx hb d_L_trim_14 (by decide) ?_
      exact J15 _ _ _ st4 pl4 ou (0 : Int64) (0 : Int32) hP hD hS (lv_sub hl [] rfl) hF
    · have hF := tx_f h7 hF
      refine lv_lconst (v := (1 : Int64)) hx hb d_L_trim_10 (by decide) ?_
      refine lv_goto hx hb d_L_trim_11 (tgt := 15) (by decide) ?_
      exact J15 _ _ _ st4 pl4 ou (1 : Int64) (0 : Int32) hP hD hS (lv_sub hl [] rfl) hF
def f_L_spoil (wd : Nat → Int32) (a1 : Int32) (a2 : Int32) (a3 : Int32) (a4 : Int32) : Option (Int32 × (Nat → Int32)) := (x_F_spoil wd a1 a2 a3 a4).elim ((f_F_spoil wd a1 a2 a3 a4).bind fun wd6 => some ((0 : Int32), wd6)) (fun xk => if xk = 0 then (some ((1 : Int32), wd)) else (none))
abbrev rm_L_spoil : Room := { frames := 9, cells := 1, slots := 6, locals := 176 }
set_option maxHeartbeats 4000000 in
set_option maxRecDepth 100000 in
theorem c_L_spoil (l : Launch) (dC : Nat → ClassId) (dI : Nat → Nat → Nat) (cA cL : ClassId) (h0 q1 q2 q3 q4 q5 q6 qo sz : Nat) (st pl tk wd er : Nat → Int32) (nx md : Int32) (ou : Nat → Int64) (a1 : Int32) (a2 : Int32) (a3 : Int32) (a4 : Int32) (r : Int32) (wd' : Nat → Int32) (hF : f_L_spoil wd a1 a2 a3 a4 = some (r, wd')) (hfl : l.flags = pinnedFlags ++ [noTraceFlag]) : Met l y_L_spoil ws_L_spoil rm_L_spoil (tx_PH [.ref h0, .int a1, .int a2, .int a3, .int a4] (dC, dI) [(cA, .int), (cL, .long)] (wH cA cL h0 q1 q2 q3 q4 q5 q6 qo st pl tk wd er nx md ou) sz) (va_Qi (S := Unit) (fun z _ => r = z) (fun _ t => va_P (dC, dI) vwCl (wH cA cL h0 q1 q2 q3 q4 q5 q6 qo st pl tk (wd') er nx md ou) t.heap ∧ va_D (va_A (wH cA cL h0 q1 q2 q3 q4 q5 q6 qo st pl tk wd er nx md ou) sz) (wH cA cL h0 q1 q2 q3 q4 q5 q6 qo st pl tk (wd') er nx md ou)) (va_A (wH cA cL h0 q1 q2 q3 q4 q5 q6 qo st pl tk wd er nx md ou) sz)) 1 6 (va_A (wH cA cL h0 q1 q2 q3 q4 q5 q6 qo st pl tk wd er nx md ou) sz) := by
  refine va_MetW (cc := b_L_spoil) (maxL := 6) (ret := some .int) (hh := [((0 : Nat), (9 : Nat), (12 : Nat), (13 : Nat))]) (by decide +kernel) rfl ?_
  intro p e s m args below meth c s₁ B hml hv
  obtain ⟨hargs, hsz, hP, hK, hD0, hNw, hE⟩ := hv
  have hx := B.exec
  have hb := B.bytes
  have hr := B.returns
  have hts := atoms_spec (ws := ws_L_spoil) B.pre
  have hown : s.vm.findClass "FlashStoreLaw" = some m.cls := findClass_of_methodNamed B.named
  have hlocks := B.notSynchronized
  subst hsz
  have hD := hD0.self (sz := s.heap.size)
  generalize hAe : va_A (wH cA cL h0 q1 q2 q3 q4 q5 q6 qo st pl tk wd er nx md ou) s.heap.size = A at hD ⊢
  have hA : ∀ q : Nat, s.heap.size ≤ q → A q := fun q h => by rw [← hAe]; exact Or.inr h
  have hS : va_S A s.heap s.heap [] := va_S.rf
  have hP : va_P (dC, dI) vwCl (wH cA cL h0 q1 q2 q3 q4 q5 q6 qo st pl tk wd er nx md ou) s.heap := hP
  have hK1 : va_K (dC, dI) vwCl [(cA, .int)] s := hK.sub [0] rfl
  have htab := tx_table B (hts _ List.mem_cons_self)
  have w0 := (hts _ (List.mem_cons_of_mem _ bq_1_139))
  have hl := lv_entry ([.ref h0, .int a1, .int a2, .int a3, .int a4]) (n := 6) (Nat.le_of_ble_eq_true rfl)
  have hen : entryFrame m args 6 = _ := (congrArg (fun z => entryFrame m z 6) hargs).trans (lg_entry_eq m ([.ref h0, .int a1, .int a2, .int a3, .int a4]) 6)
  refine W.eq hen ?_
  clear hen
  generalize (lg_sl ([.ref h0, .int a1, .int a2, .int a3, .int a4]) ++ List.replicate (6 - (lg_sl ([.ref h0, .int a1, .int a2, .int a3, .int a4])).length) Slot.unset).toArray = ls at hl ⊢
  have hl : lv_has ls 6 [(0, .ref h0), (1, .int a1), (2, .int a2), (3, .int a3), (4, .int a4)] := hl
  have hF : ((x_F_spoil wd a1 a2 a3 a4).elim ((f_F_spoil wd a1 a2 a3 a4).bind fun wd6 => some ((0 : Int32), wd6)) (fun xk => if xk = 0 then (some ((1 : Int32), wd)) else (none))) = some (r, wd') := hF
  refine lv_aload_n hx hb d_L_spoil_0 rfl (lv_at hl 0 rfl) ?_
  refine lv_iload_n hx hb d_L_spoil_1 rfl (lv_at hl 1 rfl) ?_
  refine lv_iload_n hx hb d_L_spoil_2 rfl (lv_at hl 2 rfl) ?_
  refine lv_iload_n hx hb d_L_spoil_3 rfl (lv_at hl 3 rfl) ?_
  refine lv_iload hx hb d_L_spoil_4 (lv_at hl 4 rfl) ?_
  rcases tx_or2 hF with ⟨xk, hX, hF⟩ | hF
  · by_cases hk0 : xk = 0
    · have hF := tx_t hk0 hF
      subst hk0
      refine tx_callV (As := [.int a1, .int a2, .int a3, .int a4]) (rest := []) ⟨hx, hb, hml, hown, hts⟩ (cx_F_spoil l dC dI cA h0 q1 q2 q3 q4 q5 q6 st pl tk wd er nx md a1 a2 a3 a4 0 hX hfl) (cwV 4 hts (tg_V bq_2_127 bq_2_128 bq_2_129 bq_1_1 bq_2_130) rfl rfl rfl (by decide +kernel) ⟨Nat.le_of_ble_eq_true rfl, Nat.le_of_ble_eq_true rfl⟩) ⟨tx_blX, (va_recv (ci := 1) (q0 := 0) hK hP rfl rfl), tx_preX (hP.sub (ws' := (wF cA h0 q1 q2 q3 q4 q5 q6 st pl tk wd er nx md)) [0, 1, 2, 3, 4, 5, 6] rfl) hK1 hE⟩ rfl hl.1 (lv_room (Nat.le_of_ble_eq_true rfl)) d_L_spoil_6 ⟨Nat.le_of_ble_eq_true rfl, Nat.le_of_ble_eq_true rfl⟩ [] ⟨0, 9, 12, 13⟩ [] htab (fun _ h => nomatch h) (by decide) ⟨by decide, _, w0, tx_cast0 hE⟩ rfl (fun ax H hz1 hk1 => ?_)
      have hS := tx_S1 hS hz1 hk1
      have hP := tx_kp hP hk1
      refine lv_astore hx hb d_L_spoil_12 hl (by decide) rfl (fun ls hl => ?_)
      have hl : lv_has ls 6 [(5, .ref ax), (0, .ref h0), (1, .int a1), (2, .int a2), (3, .int a3), (4, .int a4)] := hl
      refine lv_iconst (v := (1 : Int32)) hx hb d_L_spoil_14 (by decide) ?_
      cases hF
      exact W.iret hx hb hr (fun t ht hW => ⟨⟨_, (), rfl, rfl, by rw [ht]; exact hP, hD⟩, hS.F ht⟩) hS.2.2 d_L_spoil_15
    · have hF := tx_f hk0 hF
      cases hF
  · obtain ⟨wd6, hc6, hF⟩ := tx_b hF
    have hPc := hP.sub (ws' := (wF cA h0 q1 q2 q3 q4 q5 q6 st pl tk wd er nx md)) [0, 1, 2, 3, 4, 5, 6] rfl
    have hDc := hD.sub (ws' := (wF cA h0 q1 q2 q3 q4 q5 q6 st pl tk wd er nx md)) [0, 1, 2, 3, 4, 5, 6] (by decide) rfl
    have hFc := va_free (wc := (wF cA h0 q1 q2 q3 q4 q5 q6 st pl tk wd er nx md)) hD hS hA [0, 1, 2, 3, 4, 5, 6] rfl
    refine va_callv (va_runV (As := [.int a1, .int a2, .int a3, .int a4]) (rest := []) ⟨hx, hb, hml, hown, hts⟩ (c_F_spoil l dC dI cA h0 q1 q2 q3 q4 q5 q6 s.heap.size st pl tk wd er nx md a1 a2 a3 a4 wd6 hc6) (cwV 4 hts (tg_V bq_2_127 bq_2_128 bq_2_129 bq_1_1 bq_2_130) rfl rfl rfl (by decide +kernel) ⟨Nat.le_of_ble_eq_true rfl, Nat.le_of_ble_eq_true rfl⟩) ⟨tx_blW, (va_recv (ci := 1) (q0 := 0) hK hP rfl rfl), tx_preW hPc hDc hK1 hNw⟩ rfl rfl hl.1 rfl (lv_room (Nat.le_of_ble_eq_true rfl)) d_L_spoil_6 ⟨Nat.zero_le _, Nat.zero_le _⟩) hS (fun q _ h => hFc q h) hFc (fun _u t H locs ht hvm hw hB hz1 hk1 hS => ?_)
    obtain ⟨hP1, hD1⟩ := hB
    rw [ht] at hP1
    obtain ⟨hP2, hD2⟩ := va_join (wr := [(qo, .inl (cL, 1, .inr (.inl ou)))]) (w1 := (wF cA h0 q1 q2 q3 q4 q5 q6 st pl tk wd6 er nx md)) hP hD [0, 1, 2, 3, 4, 5, 6] [7] rfl rfl (by decide) (by decide) hk1 hFc hP1 hD1
    have hP := hP2.sub (ws' := (wH cA cL h0 q1 q2 q3 q4 q5 q6 qo st pl tk wd6 er nx md ou)) [1, 2, 3, 4, 5, 6, 7, 0] rfl
    have hD := hD2.sub (ws' := (wH cA cL h0 q1 q2 q3 q4 q5 q6 qo st pl tk wd6 er nx md ou)) [1, 2, 3, 4, 5, 6, 7, 0] (by decide) rfl
    refine lv_goto hx hb d_L_spoil_9 (tgt := 16) (by decide) ?_
    refine lv_iconst (v := (0 : Int32)) hx hb d_L_spoil_16 (by decide) ?_
    cases hF
    refine W.widen (k := 1) (n := 6) (by decide) (by decide) ?_
    exact W.iret hx hb hr (fun t ht hW => ⟨⟨_, (), rfl, rfl, by rw [ht]; exact hP, hD⟩, hS.F ht⟩) hS.2.2 d_L_spoil_17
def f_L_flash (wd : Nat → Int32) (ou : Nat → Int64) (a1 : Int32) (a2 : Int32) (a3 : Int32) : Option (Int32 × (Nat → Int64)) := (x_F_flash wd a1 a2 a3).elim ((f_F_flash wd a1 a2 a3).bind fun r7 => if (0 : Int32) < 0 ∨ 1 ≤ (0 : Int32).toNatClampNeg then none else some ((0 : Int32), (vp_updL ou (0 : Int32).toNatClampNeg r7.toInt64))) (fun xk => if xk = 0 then (some ((1 : Int32), ou)) else (none))
abbrev rm_L_flash : Room := { frames := 9, cells := 1, slots := 6, locals := 175 }
set_option maxHeartbeats 4000000 in
set_option maxRecDepth 100000 in
theorem c_L_flash (l : Launch) (dC : Nat → ClassId) (dI : Nat → Nat → Nat) (cA cL : ClassId) (h0 q1 q2 q3 q4 q5 q6 qo sz : Nat) (st pl tk wd er : Nat → Int32) (nx md : Int32) (ou : Nat → Int64) (a1 : Int32) (a2 : Int32) (a3 : Int32) (r : Int32) (ou' : Nat → Int64) (hF : f_L_flash wd ou a1 a2 a3 = some (r, ou')) (hfl : l.flags = pinnedFlags ++ [noTraceFlag]) : Met l y_L_flash ws_L_flash rm_L_flash (tx_PH [.ref h0, .int a1, .int a2, .int a3, .ref qo] (dC, dI) [(cA, .int), (cL, .long)] (wH cA cL h0 q1 q2 q3 q4 q5 q6 qo st pl tk wd er nx md ou) sz) (va_Qi (S := Unit) (fun z _ => r = z) (fun _ t => va_P (dC, dI) vwCl (wH cA cL h0 q1 q2 q3 q4 q5 q6 qo st pl tk wd er nx md (ou')) t.heap ∧ va_D (va_A (wH cA cL h0 q1 q2 q3 q4 q5 q6 qo st pl tk wd er nx md ou) sz) (wH cA cL h0 q1 q2 q3 q4 q5 q6 qo st pl tk wd er nx md (ou'))) (va_A (wH cA cL h0 q1 q2 q3 q4 q5 q6 qo st pl tk wd er nx md ou) sz)) 1 6 (va_A (wH cA cL h0 q1 q2 q3 q4 q5 q6 qo st pl tk wd er nx md ou) sz) := by
  refine va_MetW (cc := b_L_flash) (maxL := 6) (ret := some .int) (hh := [((0 : Nat), (12 : Nat), (15 : Nat), (13 : Nat))]) (by decide +kernel) rfl ?_
  intro p e s m args below meth c s₁ B hml hv
  obtain ⟨hargs, hsz, hP, hK, hD0, hNw, hE⟩ := hv
  have hx := B.exec
  have hb := B.bytes
  have hr := B.returns
  have hts := atoms_spec (ws := ws_L_flash) B.pre
  have hown : s.vm.findClass "FlashStoreLaw" = some m.cls := findClass_of_methodNamed B.named
  have hlocks := B.notSynchronized
  subst hsz
  have hD := hD0.self (sz := s.heap.size)
  generalize hAe : va_A (wH cA cL h0 q1 q2 q3 q4 q5 q6 qo st pl tk wd er nx md ou) s.heap.size = A at hD ⊢
  have hA : ∀ q : Nat, s.heap.size ≤ q → A q := fun q h => by rw [← hAe]; exact Or.inr h
  have hS : va_S A s.heap s.heap [] := va_S.rf
  have hP : va_P (dC, dI) vwCl (wH cA cL h0 q1 q2 q3 q4 q5 q6 qo st pl tk wd er nx md ou) s.heap := hP
  have hK1 : va_K (dC, dI) vwCl [(cA, .int)] s := hK.sub [0] rfl
  have htab := tx_table B (hts _ List.mem_cons_self)
  have w0 := (hts _ (List.mem_cons_of_mem _ bq_1_139))
  have hl := lv_entry ([.ref h0, .int a1, .int a2, .int a3, .ref qo]) (n := 6) (Nat.le_of_ble_eq_true rfl)
  have hen : entryFrame m args 6 = _ := (congrArg (fun z => entryFrame m z 6) hargs).trans (lg_entry_eq m ([.ref h0, .int a1, .int a2, .int a3, .ref qo]) 6)
  refine W.eq hen ?_
  clear hen
  generalize (lg_sl ([.ref h0, .int a1, .int a2, .int a3, .ref qo]) ++ List.replicate (6 - (lg_sl ([.ref h0, .int a1, .int a2, .int a3, .ref qo])).length) Slot.unset).toArray = ls at hl ⊢
  have hl : lv_has ls 6 [(0, .ref h0), (1, .int a1), (2, .int a2), (3, .int a3), (4, .ref qo)] := hl
  have hF : ((x_F_flash wd a1 a2 a3).elim ((f_F_flash wd a1 a2 a3).bind fun r7 => if (0 : Int32) < 0 ∨ 1 ≤ (0 : Int32).toNatClampNeg then none else some ((0 : Int32), (vp_updL ou (0 : Int32).toNatClampNeg r7.toInt64))) (fun xk => if xk = 0 then (some ((1 : Int32), ou)) else (none))) = some (r, ou') := hF
  refine lv_aload hx hb d_L_flash_0 (lv_at hl 4 rfl) ?_
  refine lv_iconst (v := (0 : Int32)) hx hb d_L_flash_2 (by decide) ?_
  refine lv_aload_n hx hb d_L_flash_3 rfl (lv_at hl 0 rfl) ?_
  refine lv_iload_n hx hb d_L_flash_4 rfl (lv_at hl 1 rfl) ?_
  refine lv_iload_n hx hb d_L_flash_5 rfl (lv_at hl 2 rfl) ?_
  refine lv_iload_n hx hb d_L_flash_6 rfl (lv_at hl 3 rfl) ?_
  rcases tx_or2 hF with ⟨xk, hX, hF⟩ | hF
  · by_cases hk0 : xk = 0
    · have hF := tx_t hk0 hF
      subst hk0
      refine tx_callV (As := [.int a1, .int a2, .int a3]) (rest := [.int (0 : Int32), .ref qo]) ⟨hx, hb, hml, hown, hts⟩ (cx_F_flash l dC dI cA h0 q1 q2 q3 q4 q5 q6 st pl tk wd er nx md a1 a2 a3 0 hX hfl) (cwV 3 hts (tg_V bq_2_150 bq_2_151 bq_2_152 bq_1_1 bq_2_153) rfl rfl rfl (by decide +kernel) ⟨Nat.le_of_ble_eq_true rfl, Nat.le_of_ble_eq_true rfl⟩) ⟨tx_blX, (va_recv (ci := 1) (q0 := 0) hK hP rfl rfl), tx_preX (hP.sub (ws' := (wF cA h0 q1 q2 q3 q4 q5 q6 st pl tk wd er nx md)) [0, 1, 2, 3, 4, 5, 6] rfl) hK1 hE⟩ rfl hl.1 (lv_room (Nat.le_of_ble_eq_true rfl)) d_L_flash_7 ⟨Nat.le_of_ble_eq_true rfl, Nat.le_of_ble_eq_true rfl⟩ [] ⟨0, 12, 15, 13⟩ [] htab (fun _ h => nomatch h) (by decide) ⟨by decide, _, w0, tx_cast0 hE⟩ rfl (fun ax H hz1 hk1 => ?_)
      have hS := tx_S1 hS hz1 hk1
      have hP := tx_kp hP hk1
      refine lv_astore hx hb d_L_flash_15 hl (by decide) rfl (fun ls hl => ?_)
      have hl : lv_has ls 6 [(5, .ref ax), (0, .ref h0), (1, .int a1), (2, .int a2), (3, .int a3), (4, .ref qo)] := hl
      refine lv_iconst (v := (1 : Int32)) hx hb d_L_flash_17 (by decide) ?_
      cases hF
      exact W.iret hx hb hr (fun t ht hW => ⟨⟨_, (), rfl, rfl, by rw [ht]; exact hP, hD⟩, hS.F ht⟩) hS.2.2 d_L_flash_18
    · have hF := tx_f hk0 hF
      cases hF
  · obtain ⟨r7, hc7, hF⟩ := tx_b hF
    refine vp_callSi (W.runV (As := [.int a1, .int a2, .int a3]) (rest := [.int (0 : Int32), .ref qo]) ⟨hx, hb, hml, hown, hts⟩ (c_F_flash l dC dI cA h0 q1 q2 q3 q4 q5 q6 st pl tk wd er nx md a1 a2 a3 r7 hc7) (cwV 3 hts (tg_V bq_2_150 bq_2_151 bq_2_152 bq_1_1 bq_2_153) rfl rfl rfl (by decide +kernel) ⟨Nat.le_of_ble_eq_true rfl, Nat.le_of_ble_eq_true rfl⟩) ⟨tx_blR, (va_recv (ci := 1) (q0 := 0) hK hP rfl rfl), tx_preR (hP.sub (ws' := (wF cA h0 q1 q2 q3 q4 q5 q6 st pl tk wd er nx md)) [0, 1, 2, 3, 4, 5, 6] rfl) hK1⟩ rfl rfl hl.1 rfl (lv_room (Nat.le_of_ble_eq_true rfl)) d_L_flash_7 ⟨Nat.zero_le _, Nat.zero_le _⟩) (fun zz hz => ?_)
    subst hz
    refine lv_i2l hx hb d_L_flash_10 rfl ?_
    obtain ⟨hi11, hF⟩ := tx_g hF
    refine va_last hx hb hK hP hD hS 7 1 rfl rfl hi11 d_L_flash_11 (fun H locs hP hD hS => ?_)
    have hP : va_P (dC, dI) vwCl (wH cA cL h0 q1 q2 q3 q4 q5 q6 qo st pl tk wd er nx md (vp_updL ou (0 : Int32).toNatClampNeg r7.toInt64)) H := hP
    have hD : va_D A (wH cA cL h0 q1 q2 q3 q4 q5 q6 qo st pl tk wd er nx md (vp_updL ou (0 : Int32).toNatClampNeg r7.toInt64)) := hD
    refine lv_goto hx hb d_L_flash_12 (tgt := 19) (by decide) ?_
    refine lv_iconst (v := (0 : Int32)) hx hb d_L_flash_19 (by decide) ?_
    cases hF
    refine W.widen (k := 1) (n := 6) (by decide) (by decide) ?_
    exact W.iret hx hb hr (fun t ht hW => ⟨⟨_, (), rfl, rfl, by rw [ht]; exact hP, hD⟩, hS.F ht⟩) hS.2.2 d_L_flash_20
def f_L_clean (st : Nat → Int32) (pl : Nat → Int32) (wd : Nat → Int32) (er : Nat → Int32) (nx : Int32) (ou : Nat → Int64) : Option (Int32 × (Nat → Int32) × (Nat → Int32) × (Nat → Int32) × (Nat → Int32) × Int32 × (Nat → Int64)) := (x_F_clean st pl wd er nx).elim ((f_F_clean st pl wd er nx).bind fun (r3, st3, pl3, wd3, er3, nx3) => if (0 : Int32) < 0 ∨ 1 ≤ (0 : Int32).toNatClampNeg then none else some ((0 : Int32), st3, pl3, wd3, er3, nx3, (vp_updL ou (0 : Int32).toNatClampNeg r3.toInt64))) (fun xk => if xk = 1 then (some ((1 : Int32), st, pl, wd, er, nx, ou)) else (none))
abbrev rm_L_clean : Room := { frames := 8, cells := 1, slots := 6, locals := 180 }
set_option maxHeartbeats 4000000 in
set_option maxRecDepth 100000 in
theorem c_L_clean (l : Launch) (dC : Nat → ClassId) (dI : Nat → Nat → Nat) (cA cL : ClassId) (h0 q1 q2 q3 q4 q5 q6 qo sz : Nat) (st pl tk wd er : Nat → Int32) (nx md : Int32) (ou : Nat → Int64)  (r : Int32) (st' : Nat → Int32) (pl' : Nat → Int32) (wd' : Nat → Int32) (er' : Nat → Int32) (nx' : Int32) (ou' : Nat → Int64) (hF : f_L_clean st pl wd er nx ou = some (r, st', pl', wd', er', nx', ou')) (hfl : l.flags = pinnedFlags ++ [noTraceFlag]) : Met l y_L_clean ws_L_clean rm_L_clean (tx_PH [.ref h0, .ref qo] (dC, dI) [(cA, .int), (cL, .long)] (wH cA cL h0 q1 q2 q3 q4 q5 q6 qo st pl tk wd er nx md ou) sz) (va_Qi (S := Unit) (fun z _ => r = z) (fun _ t => va_P (dC, dI) vwCl (wH cA cL h0 q1 q2 q3 q4 q5 q6 qo (st') (pl') tk (wd') (er') (nx') md (ou')) t.heap ∧ va_D (va_A (wH cA cL h0 q1 q2 q3 q4 q5 q6 qo st pl tk wd er nx md ou) sz) (wH cA cL h0 q1 q2 q3 q4 q5 q6 qo (st') (pl') tk (wd') (er') (nx') md (ou'))) (va_A (wH cA cL h0 q1 q2 q3 q4 q5 q6 qo st pl tk wd er nx md ou) sz)) 1 6 (va_A (wH cA cL h0 q1 q2 q3 q4 q5 q6 qo st pl tk wd er nx md ou) sz) := by
  refine va_MetW (cc := b_L_clean) (maxL := 3) (ret := some .int) (hh := [((0 : Nat), (8 : Nat), (11 : Nat), (24 : Nat))]) (by decide +kernel) rfl ?_
  intro p e s m args below meth c s₁ B hml hv
  obtain ⟨hargs, hsz, hP, hK, hD0, hNw, hE⟩ := hv
  have hx := B.exec
  have hb := B.bytes
  have hr := B.returns
  have hts := atoms_spec (ws := ws_L_clean) B.pre
  have hown : s.vm.findClass "FlashStoreLaw" = some m.cls := findClass_of_methodNamed B.named
  have hlocks := B.notSynchronized
  subst hsz
  have hD := hD0.self (sz := s.heap.size)
  generalize hAe : va_A (wH cA cL h0 q1 q2 q3 q4 q5 q6 qo st pl tk wd er nx md ou) s.heap.size = A at hD ⊢
  have hA : ∀ q : Nat, s.heap.size ≤ q → A q := fun q h => by rw [← hAe]; exact Or.inr h
  have hS : va_S A s.heap s.heap [] := va_S.rf
  have hP : va_P (dC, dI) vwCl (wH cA cL h0 q1 q2 q3 q4 q5 q6 qo st pl tk wd er nx md ou) s.heap := hP
  have hK1 : va_K (dC, dI) vwCl [(cA, .int)] s := hK.sub [0] rfl
  have htab := tx_table B (hts _ List.mem_cons_self)
  have w0 := (hts _ (List.mem_cons_of_mem _ bq_2_6))
  have hl := lv_entry ([.ref h0, .ref qo]) (n := 3) (Nat.le_of_ble_eq_true rfl)
  have hen : entryFrame m args 3 = _ := (congrArg (fun z => entryFrame m z 3) hargs).trans (lg_entry_eq m ([.ref h0, .ref qo]) 3)
  refine W.eq hen ?_
  clear hen
  generalize (lg_sl ([.ref h0, .ref qo]) ++ List.replicate (3 - (lg_sl ([.ref h0, .ref qo])).length) Slot.unset).toArray = ls at hl ⊢
  have hl : lv_has ls 3 [(0, .ref h0), (1, .ref qo)] := hl
  have hF : ((x_F_clean st pl wd er nx).elim ((f_F_clean st pl wd er nx).bind fun (r3, st3, pl3, wd3, er3, nx3) => if (0 : Int32) < 0 ∨ 1 ≤ (0 : Int32).toNatClampNeg then none else some ((0 : Int32), st3, pl3, wd3, er3, nx3, (vp_updL ou (0 : Int32).toNatClampNeg r3.toInt64))) (fun xk => if xk = 1 then (some ((1 : Int32), st, pl, wd, er, nx, ou)) else (none))) = some (r, st', pl', wd', er', nx', ou') := hF
  refine lv_aload_n hx hb d_L_clean_0 rfl (lv_at hl 1 rfl) ?_
  refine lv_iconst (v := (0 : Int32)) hx hb d_L_clean_1 (by decide) ?_
  refine lv_aload_n hx hb d_L_clean_2 rfl (lv_at hl 0 rfl) ?_
  rcases tx_or2 hF with ⟨xk, hX, hF⟩ | hF
  · by_cases hk0 : xk = 1
    · have hF := tx_t hk0 hF
      subst hk0
      refine tx_callV (As := []) (rest := [.int (0 : Int32), .ref qo]) ⟨hx, hb, hml, hown, hts⟩ (cx_F_clean l dC dI cA h0 q1 q2 q3 q4 q5 q6 st pl tk wd er nx md 1 hX hfl) (cwV 0 hts (tg_V bq_2_158 bq_2_159 bq_2_160 bq_1_1 bq_2_161) rfl rfl rfl (by decide +kernel) ⟨Nat.le_of_ble_eq_true rfl, Nat.le_of_ble_eq_true rfl⟩) ⟨tx_blX, (va_recv (ci := 1) (q0 := 0) hK hP rfl rfl), tx_preX (hP.sub (ws' := (wF cA h0 q1 q2 q3 q4 q5 q6 st pl tk wd er nx md)) [0, 1, 2, 3, 4, 5, 6] rfl) hK1 hE⟩ rfl hl.1 (lv_room (Nat.le_of_ble_eq_true rfl)) d_L_clean_3 ⟨Nat.le_of_ble_eq_true rfl, Nat.le_of_ble_eq_true rfl⟩ [] ⟨0, 8, 11, 24⟩ [] htab (fun _ h => nomatch h) (by decide) ⟨by decide, _, w0, tx_cast1 hE⟩ rfl (fun ax H hz1 hk1 => ?_)
      have hS := tx_S1 hS hz1 hk1
      have hP := tx_kp hP hk1
      refine lv_astore_n hx hb d_L_clean_11 rfl hl (by decide) rfl (fun ls hl => ?_)
      have hl : lv_has ls 3 [(2, .ref ax), (0, .ref h0), (1, .ref qo)] := hl
      refine lv_iconst (v := (1 : Int32)) hx hb d_L_clean_12 (by decide) ?_
      cases hF
      exact W.iret hx hb hr (fun t ht hW => ⟨⟨_, (), rfl, rfl, by rw [ht]; exact hP, hD⟩, hS.F ht⟩) hS.2.2 d_L_clean_13
    · have hF := tx_f hk0 hF
      cases hF
  · obtain ⟨⟨r3, st3, pl3, wd3, er3, nx3⟩, hc3, hF⟩ := tx_b hF
    try dsimp only at hF
    have hPc := hP.sub (ws' := (wF cA h0 q1 q2 q3 q4 q5 q6 st pl tk wd er nx md)) [0, 1, 2, 3, 4, 5, 6] rfl
    have hDc := hD.sub (ws' := (wF cA h0 q1 q2 q3 q4 q5 q6 st pl tk wd er nx md)) [0, 1, 2, 3, 4, 5, 6] (by decide) rfl
    have hFc := va_free (wc := (wF cA h0 q1 q2 q3 q4 q5 q6 st pl tk wd er nx md)) hD hS hA [0, 1, 2, 3, 4, 5, 6] rfl
    refine va_calli (va_runV (As := []) (rest := [.int (0 : Int32), .ref qo]) ⟨hx, hb, hml, hown, hts⟩ (c_F_clean l dC dI cA h0 q1 q2 q3 q4 q5 q6 s.heap.size st pl tk wd er nx md r3 st3 pl3 wd3 er3 nx3 hc3) (cwV 0 hts (tg_V bq_2_158 bq_2_159 bq_2_160 bq_1_1 bq_2_161) rfl rfl rfl (by decide +kernel) ⟨Nat.le_of_ble_eq_true rfl, Nat.le_of_ble_eq_true rfl⟩) ⟨tx_blW, (va_recv (ci := 1) (q0 := 0) hK hP rfl rfl), tx_preW hPc hDc hK1 hNw⟩ rfl rfl hl.1 rfl (lv_room (Nat.le_of_ble_eq_true rfl)) d_L_clean_3 ⟨Nat.zero_le _, Nat.zero_le _⟩) hS (fun q _ h => hFc q h) hFc (fun zz _u t H locs ht hvm hw hB hz1 hk1 hS => ?_)
    subst hw
    obtain ⟨hP1, hD1⟩ := hB
    rw [ht] at hP1
    obtain ⟨hP2, hD2⟩ := va_join (wr := [(qo, .inl (cL, 1, .inr (.inl ou)))]) (w1 := (wF cA h0 q1 q2 q3 q4 q5 q6 st3 pl3 tk wd3 er3 nx3 md)) hP hD [0, 1, 2, 3, 4, 5, 6] [7] rfl rfl (by decide) (by decide) hk1 hFc hP1 hD1
    have hP := hP2.sub (ws' := (wH cA cL h0 q1 q2 q3 q4 q5 q6 qo st3 pl3 tk wd3 er3 nx3 md ou)) [1, 2, 3, 4, 5, 6, 7, 0] rfl
    have hD := hD2.sub (ws' := (wH cA cL h0 q1 q2 q3 q4 q5 q6 qo st3 pl3 tk wd3 er3 nx3 md ou)) [1, 2, 3, 4, 5, 6, 7, 0] (by decide) rfl
    refine lv_i2l hx hb d_L_clean_6 rfl ?_
    obtain ⟨hi7, hF⟩ := tx_g hF
    refine va_last hx hb hK hP hD hS 7 1 rfl rfl hi7 d_L_clean_7 (fun H locs hP hD hS => ?_)
    have hP : va_P (dC, dI) vwCl (wH cA cL h0 q1 q2 q3 q4 q5 q6 qo st3 pl3 tk wd3 er3 nx3 md (vp_updL ou (0 : Int32).toNatClampNeg r3.toInt64)) H := hP
    have hD : va_D A (wH cA cL h0 q1 q2 q3 q4 q5 q6 qo st3 pl3 tk wd3 er3 nx3 md (vp_updL ou (0 : Int32).toNatClampNeg r3.toInt64)) := hD
    refine lv_goto hx hb d_L_clean_8 (tgt := 14) (by decide) ?_
    refine lv_iconst (v := (0 : Int32)) hx hb d_L_clean_14 (by decide) ?_
    cases hF
    refine W.widen (k := 1) (n := 6) (by decide) (by decide) ?_
    exact W.iret hx hb hr (fun t ht hW => ⟨⟨_, (), rfl, rfl, by rw [ht]; exact hP, hD⟩, hS.F ht⟩) hS.2.2 d_L_clean_15
def f_L_place (pl : Nat → Int32) (ou : Nat → Int64) (a1 : Int32) : Option (Int32 × (Nat → Int64)) := (x_F_place pl a1).elim ((f_F_place pl a1).bind fun r4 => if (0 : Int32) < 0 ∨ 1 ≤ (0 : Int32).toNatClampNeg then none else some ((0 : Int32), (vp_updL ou (0 : Int32).toNatClampNeg r4.toInt64))) (fun xk => if xk = 0 then (some ((1 : Int32), ou)) else (none))
abbrev rm_L_place : Room := { frames := 8, cells := 1, slots := 6, locals := 151 }
set_option maxHeartbeats 4000000 in
set_option maxRecDepth 100000 in
theorem c_L_place (l : Launch) (dC : Nat → ClassId) (dI : Nat → Nat → Nat) (cA cL : ClassId) (h0 q1 q2 q3 q4 q5 q6 qo sz : Nat) (st pl tk wd er : Nat → Int32) (nx md : Int32) (ou : Nat → Int64) (a1 : Int32) (r : Int32) (ou' : Nat → Int64) (hF : f_L_place pl ou a1 = some (r, ou')) (hfl : l.flags = pinnedFlags ++ [noTraceFlag]) : Met l y_L_place ws_L_place rm_L_place (tx_PH [.ref h0, .int a1, .ref qo] (dC, dI) [(cA, .int), (cL, .long)] (wH cA cL h0 q1 q2 q3 q4 q5 q6 qo st pl tk wd er nx md ou) sz) (va_Qi (S := Unit) (fun z _ => r = z) (fun _ t => va_P (dC, dI) vwCl (wH cA cL h0 q1 q2 q3 q4 q5 q6 qo st pl tk wd er nx md (ou')) t.heap ∧ va_D (va_A (wH cA cL h0 q1 q2 q3 q4 q5 q6 qo st pl tk wd er nx md ou) sz) (wH cA cL h0 q1 q2 q3 q4 q5 q6 qo st pl tk wd er nx md (ou'))) (va_A (wH cA cL h0 q1 q2 q3 q4 q5 q6 qo st pl tk wd er nx md ou) sz)) 1 6 (va_A (wH cA cL h0 q1 q2 q3 q4 q5 q6 qo st pl tk wd er nx md ou) sz) := by
  refine va_MetW (cc := b_L_place) (maxL := 4) (ret := some .int) (hh := [((0 : Nat), (9 : Nat), (12 : Nat), (13 : Nat))]) (by decide +kernel) rfl ?_
  intro p e s m args below meth c s₁ B hml hv
  obtain ⟨hargs, hsz, hP, hK, hD0, hNw, hE⟩ := hv
  have hx := B.exec
  have hb := B.bytes
  have hr := B.returns
  have hts := atoms_spec (ws := ws_L_place) B.pre
  have hown : s.vm.findClass "FlashStoreLaw" = some m.cls := findClass_of_methodNamed B.named
  have hlocks := B.notSynchronized
  subst hsz
  have hD := hD0.self (sz := s.heap.size)
  generalize hAe : va_A (wH cA cL h0 q1 q2 q3 q4 q5 q6 qo st pl tk wd er nx md ou) s.heap.size = A at hD ⊢
  have hA : ∀ q : Nat, s.heap.size ≤ q → A q := fun q h => by rw [← hAe]; exact Or.inr h
  have hS : va_S A s.heap s.heap [] := va_S.rf
  have hP : va_P (dC, dI) vwCl (wH cA cL h0 q1 q2 q3 q4 q5 q6 qo st pl tk wd er nx md ou) s.heap := hP
  have hK1 : va_K (dC, dI) vwCl [(cA, .int)] s := hK.sub [0] rfl
  have htab := tx_table B (hts _ List.mem_cons_self)
  have w0 := (hts _ (List.mem_cons_of_mem _ bq_1_139))
  have hl := lv_entry ([.ref h0, .int a1, .ref qo]) (n := 4) (Nat.le_of_ble_eq_true rfl)
  have hen : entryFrame m args 4 = _ := (congrArg (fun z => entryFrame m z 4) hargs).trans (lg_entry_eq m ([.ref h0, .int a1, .ref qo]) 4)
  refine W.eq hen ?_
  clear hen
  generalize (lg_sl ([.ref h0, .int a1, .ref qo]) ++ List.replicate (4 - (lg_sl ([.ref h0, .int a1, .ref qo])).length) Slot.unset).toArray = ls at hl ⊢
  have hl : lv_has ls 4 [(0, .ref h0), (1, .int a1), (2, .ref qo)] := hl
  have hF : ((x_F_place pl a1).elim ((f_F_place pl a1).bind fun r4 => if (0 : Int32) < 0 ∨ 1 ≤ (0 : Int32).toNatClampNeg then none else some ((0 : Int32), (vp_updL ou (0 : Int32).toNatClampNeg r4.toInt64))) (fun xk => if xk = 0 then (some ((1 : Int32), ou)) else (none))) = some (r, ou') := hF
  refine lv_aload_n hx hb d_L_place_0 rfl (lv_at hl 2 rfl) ?_
  refine lv_iconst (v := (0 : Int32)) hx hb d_L_place_1 (by decide) ?_
  refine lv_aload_n hx hb d_L_place_2 rfl (lv_at hl 0 rfl) ?_
  refine lv_iload_n hx hb d_L_place_3 rfl (lv_at hl 1 rfl) ?_
  rcases tx_or2 hF with ⟨xk, hX, hF⟩ | hF
  · by_cases hk0 : xk = 0
    · have hF := tx_t hk0 hF
      subst hk0
      refine tx_callV (As := [.int a1]) (rest := [.int (0 : Int32), .ref qo]) ⟨hx, hb, hml, hown, hts⟩ (cx_F_place l dC dI cA h0 q1 q2 q3 q4 q5 q6 st pl tk wd er nx md a1 0 hX hfl) (cwV 1 hts (tg_V bq_2_166 bq_2_167 bq_2_168 bq_1_1 bq_2_169) rfl rfl rfl (by decide +kernel) ⟨Nat.le_of_ble_eq_true rfl, Nat.le_of_ble_eq_true rfl⟩) ⟨tx_blX, (va_recv (ci := 1) (q0 := 0) hK hP rfl rfl), tx_preX (hP.sub (ws' := (wF cA h0 q1 q2 q3 q4 q5 q6 st pl tk wd er nx md)) [0, 1, 2, 3, 4, 5, 6] rfl) hK1 hE⟩ rfl hl.1 (lv_room (Nat.le_of_ble_eq_true rfl)) d_L_place_4 ⟨Nat.le_of_ble_eq_true rfl, Nat.le_of_ble_eq_true rfl⟩ [] ⟨0, 9, 12, 13⟩ [] htab (fun _ h => nomatch h) (by decide) ⟨by decide, _, w0, tx_cast0 hE⟩ rfl (fun ax H hz1 hk1 => ?_)
      have hS := tx_S1 hS hz1 hk1
      have hP := tx_kp hP hk1
      refine lv_astore_n hx hb d_L_place_12 rfl hl (by decide) rfl (fun ls hl => ?_)
      have hl : lv_has ls 4 [(3, .ref ax), (0, .ref h0), (1, .int a1), (2, .ref qo)] := hl
      refine lv_iconst (v := (1 : Int32)) hx hb d_L_place_13 (by decide) ?_
      cases hF
      exact W.iret hx hb hr (fun t ht hW => ⟨⟨_, (), rfl, rfl, by rw [ht]; exact hP, hD⟩, hS.F ht⟩) hS.2.2 d_L_place_14
    · have hF := tx_f hk0 hF
      cases hF
  · obtain ⟨r4, hc4, hF⟩ := tx_b hF
    refine vp_callSi (W.runV (As := [.int a1]) (rest := [.int (0 : Int32), .ref qo]) ⟨hx, hb, hml, hown, hts⟩ (c_F_place l dC dI cA h0 q1 q2 q3 q4 q5 q6 st pl tk wd er nx md a1 r4 hc4) (cwV 1 hts (tg_V bq_2_166 bq_2_167 bq_2_168 bq_1_1 bq_2_169) rfl rfl rfl (by decide +kernel) ⟨Nat.le_of_ble_eq_true rfl, Nat.le_of_ble_eq_true rfl⟩) ⟨tx_blR, (va_recv (ci := 1) (q0 := 0) hK hP rfl rfl), tx_preR (hP.sub (ws' := (wF cA h0 q1 q2 q3 q4 q5 q6 st pl tk wd er nx md)) [0, 1, 2, 3, 4, 5, 6] rfl) hK1⟩ rfl rfl hl.1 rfl (lv_room (Nat.le_of_ble_eq_true rfl)) d_L_place_4 ⟨Nat.zero_le _, Nat.zero_le _⟩) (fun zz hz => ?_)
    subst hz
    refine lv_i2l hx hb d_L_place_7 rfl ?_
    obtain ⟨hi8, hF⟩ := tx_g hF
    refine va_last hx hb hK hP hD hS 7 1 rfl rfl hi8 d_L_place_8 (fun H locs hP hD hS => ?_)
    have hP : va_P (dC, dI) vwCl (wH cA cL h0 q1 q2 q3 q4 q5 q6 qo st pl tk wd er nx md (vp_updL ou (0 : Int32).toNatClampNeg r4.toInt64)) H := hP
    have hD : va_D A (wH cA cL h0 q1 q2 q3 q4 q5 q6 qo st pl tk wd er nx md (vp_updL ou (0 : Int32).toNatClampNeg r4.toInt64)) := hD
    refine lv_goto hx hb d_L_place_9 (tgt := 15) (by decide) ?_
    refine lv_iconst (v := (0 : Int32)) hx hb d_L_place_15 (by decide) ?_
    cases hF
    refine W.widen (k := 1) (n := 6) (by decide) (by decide) ?_
    exact W.iret hx hb hr (fun t ht hW => ⟨⟨_, (), rfl, rfl, by rw [ht]; exact hP, hD⟩, hS.F ht⟩) hS.2.2 d_L_place_16
def f_L_state (st : Nat → Int32) (ou : Nat → Int64) (a1 : Int32) (a2 : Int32) : Option (Int32 × (Nat → Int64)) := (x_F_state st a1 a2).elim ((f_F_state st a1 a2).bind fun r5 => if (0 : Int32) < 0 ∨ 1 ≤ (0 : Int32).toNatClampNeg then none else some ((0 : Int32), (vp_updL ou (0 : Int32).toNatClampNeg r5.toInt64))) (fun xk => if xk = 0 then (some ((1 : Int32), ou)) else (none))
abbrev rm_L_state : Room := { frames := 8, cells := 1, slots := 6, locals := 152 }
set_option maxHeartbeats 4000000 in
set_option maxRecDepth 100000 in
theorem c_L_state (l : Launch) (dC : Nat → ClassId) (dI : Nat → Nat → Nat) (cA cL : ClassId) (h0 q1 q2 q3 q4 q5 q6 qo sz : Nat) (st pl tk wd er : Nat → Int32) (nx md : Int32) (ou : Nat → Int64) (a1 : Int32) (a2 : Int32) (r : Int32) (ou' : Nat → Int64) (hF : f_L_state st ou a1 a2 = some (r, ou')) (hfl : l.flags = pinnedFlags ++ [noTraceFlag]) : Met l y_L_state ws_L_state rm_L_state (tx_PH [.ref h0, .int a1, .int a2, .ref qo] (dC, dI) [(cA, .int), (cL, .long)] (wH cA cL h0 q1 q2 q3 q4 q5 q6 qo st pl tk wd er nx md ou) sz) (va_Qi (S := Unit) (fun z _ => r = z) (fun _ t => va_P (dC, dI) vwCl (wH cA cL h0 q1 q2 q3 q4 q5 q6 qo st pl tk wd er nx md (ou')) t.heap ∧ va_D (va_A (wH cA cL h0 q1 q2 q3 q4 q5 q6 qo st pl tk wd er nx md ou) sz) (wH cA cL h0 q1 q2 q3 q4 q5 q6 qo st pl tk wd er nx md (ou'))) (va_A (wH cA cL h0 q1 q2 q3 q4 q5 q6 qo st pl tk wd er nx md ou) sz)) 1 6 (va_A (wH cA cL h0 q1 q2 q3 q4 q5 q6 qo st pl tk wd er nx md ou) sz) := by
  refine va_MetW (cc := b_L_state) (maxL := 5) (ret := some .int) (hh := [((0 : Nat), (10 : Nat), (13 : Nat), (13 : Nat))]) (by decide +kernel) rfl ?_
  intro p e s m args below meth c s₁ B hml hv
  obtain ⟨hargs, hsz, hP, hK, hD0, hNw, hE⟩ := hv
  have hx := B.exec
  have hb := B.bytes
  have hr := B.returns
  have hts := atoms_spec (ws := ws_L_state) B.pre
  have hown : s.vm.findClass "FlashStoreLaw" = some m.cls := findClass_of_methodNamed B.named
  have hlocks := B.notSynchronized
  subst hsz
  have hD := hD0.self (sz := s.heap.size)
  generalize hAe : va_A (wH cA cL h0 q1 q2 q3 q4 q5 q6 qo st pl tk wd er nx md ou) s.heap.size = A at hD ⊢
  have hA : ∀ q : Nat, s.heap.size ≤ q → A q := fun q h => by rw [← hAe]; exact Or.inr h
  have hS : va_S A s.heap s.heap [] := va_S.rf
  have hP : va_P (dC, dI) vwCl (wH cA cL h0 q1 q2 q3 q4 q5 q6 qo st pl tk wd er nx md ou) s.heap := hP
  have hK1 : va_K (dC, dI) vwCl [(cA, .int)] s := hK.sub [0] rfl
  have htab := tx_table B (hts _ List.mem_cons_self)
  have w0 := (hts _ (List.mem_cons_of_mem _ bq_1_139))
  have hl := lv_entry ([.ref h0, .int a1, .int a2, .ref qo]) (n := 5) (Nat.le_of_ble_eq_true rfl)
  have hen : entryFrame m args 5 = _ := (congrArg (fun z => entryFrame m z 5) hargs).trans (lg_entry_eq m ([.ref h0, .int a1, .int a2, .ref qo]) 5)
  refine W.eq hen ?_
  clear hen
  generalize (lg_sl ([.ref h0, .int a1, .int a2, .ref qo]) ++ List.replicate (5 - (lg_sl ([.ref h0, .int a1, .int a2, .ref qo])).length) Slot.unset).toArray = ls at hl ⊢
  have hl : lv_has ls 5 [(0, .ref h0), (1, .int a1), (2, .int a2), (3, .ref qo)] := hl
  have hF : ((x_F_state st a1 a2).elim ((f_F_state st a1 a2).bind fun r5 => if (0 : Int32) < 0 ∨ 1 ≤ (0 : Int32).toNatClampNeg then none else some ((0 : Int32), (vp_updL ou (0 : Int32).toNatClampNeg r5.toInt64))) (fun xk => if xk = 0 then (some ((1 : Int32), ou)) else (none))) = some (r, ou') := hF
  refine lv_aload_n hx hb d_L_state_0 rfl (lv_at hl 3 rfl) ?_
  refine lv_iconst (v := (0 : Int32)) hx hb d_L_state_1 (by decide) ?_
  refine lv_aload_n hx hb d_L_state_2 rfl (lv_at hl 0 rfl) ?_
  refine lv_iload_n hx hb d_L_state_3 rfl (lv_at hl 1 rfl) ?_
  refine lv_iload_n hx hb d_L_state_4 rfl (lv_at hl 2 rfl) ?_
  rcases tx_or2 hF with ⟨xk, hX, hF⟩ | hF
  · by_cases hk0 : xk = 0
    · have hF := tx_t hk0 hF
      subst hk0
      refine tx_callV (As := [.int a1, .int a2]) (rest := [.int (0 : Int32), .ref qo]) ⟨hx, hb, hml, hown, hts⟩ (cx_F_state l dC dI cA h0 q1 q2 q3 q4 q5 q6 st pl tk wd er nx md a1 a2 0 hX hfl) (cwV 2 hts (tg_V bq_2_173 bq_2_174 bq_2_175 bq_1_1 bq_2_176) rfl rfl rfl (by decide +kernel) ⟨Nat.le_of_ble_eq_true rfl, Nat.le_of_ble_eq_true rfl⟩) ⟨tx_blX, (va_recv (ci := 1) (q0 := 0) hK hP rfl rfl), tx_preX (hP.sub (ws' := (wF cA h0 q1 q2 q3 q4 q5 q6 st pl tk wd er nx md)) [0, 1, 2, 3, 4, 5, 6] rfl) hK1 hE⟩ rfl hl.1 (lv_room (Nat.le_of_ble_eq_true rfl)) d_L_state_5 ⟨Nat.le_of_ble_eq_true rfl, Nat.le_of_ble_eq_true rfl⟩ [] ⟨0, 10, 13, 13⟩ [] htab (fun _ h => nomatch h) (by decide) ⟨by decide, _, w0, tx_cast0 hE⟩ rfl (fun ax H hz1 hk1 => ?_)
      have hS := tx_S1 hS hz1 hk1
      have hP := tx_kp hP hk1
      refine lv_astore hx hb d_L_state_13 hl (by decide) rfl (fun ls hl => ?_)
      have hl : lv_has ls 5 [(4, .ref ax), (0, .ref h0), (1, .int a1), (2, .int a2), (3, .ref qo)] := hl
      refine lv_iconst (v := (1 : Int32)) hx hb d_L_state_15 (by decide) ?_
      cases hF
      exact W.iret hx hb hr (fun t ht hW => ⟨⟨_, (), rfl, rfl, by rw [ht]; exact hP, hD⟩, hS.F ht⟩) hS.2.2 d_L_state_16
    · have hF := tx_f hk0 hF
      cases hF
  · obtain ⟨r5, hc5, hF⟩ := tx_b hF
    refine vp_callSi (W.runV (As := [.int a1, .int a2]) (rest := [.int (0 : Int32), .ref qo]) ⟨hx, hb, hml, hown, hts⟩ (c_F_state l dC dI cA h0 q1 q2 q3 q4 q5 q6 st pl tk wd er nx md a1 a2 r5 hc5) (cwV 2 hts (tg_V bq_2_173 bq_2_174 bq_2_175 bq_1_1 bq_2_176) rfl rfl rfl (by decide +kernel) ⟨Nat.le_of_ble_eq_true rfl, Nat.le_of_ble_eq_true rfl⟩) ⟨tx_blR, (va_recv (ci := 1) (q0 := 0) hK hP rfl rfl), tx_preR (hP.sub (ws' := (wF cA h0 q1 q2 q3 q4 q5 q6 st pl tk wd er nx md)) [0, 1, 2, 3, 4, 5, 6] rfl) hK1⟩ rfl rfl hl.1 rfl (lv_room (Nat.le_of_ble_eq_true rfl)) d_L_state_5 ⟨Nat.zero_le _, Nat.zero_le _⟩) (fun zz hz => ?_)
    subst hz
    refine lv_i2l hx hb d_L_state_8 rfl ?_
    obtain ⟨hi9, hF⟩ := tx_g hF
    refine va_last hx hb hK hP hD hS 7 1 rfl rfl hi9 d_L_state_9 (fun H locs hP hD hS => ?_)
    have hP : va_P (dC, dI) vwCl (wH cA cL h0 q1 q2 q3 q4 q5 q6 qo st pl tk wd er nx md (vp_updL ou (0 : Int32).toNatClampNeg r5.toInt64)) H := hP
    have hD : va_D A (wH cA cL h0 q1 q2 q3 q4 q5 q6 qo st pl tk wd er nx md (vp_updL ou (0 : Int32).toNatClampNeg r5.toInt64)) := hD
    refine lv_goto hx hb d_L_state_10 (tgt := 17) (by decide) ?_
    refine lv_iconst (v := (0 : Int32)) hx hb d_L_state_17 (by decide) ?_
    cases hF
    refine W.widen (k := 1) (n := 6) (by decide) (by decide) ?_
    exact W.iret hx hb hr (fun t ht hW => ⟨⟨_, (), rfl, rfl, by rw [ht]; exact hP, hD⟩, hS.F ht⟩) hS.2.2 d_L_state_18
def f_L_wear (er : Nat → Int32) (ou : Nat → Int64) (a1 : Int32) : Option (Int32 × (Nat → Int64)) := (x_F_wear er a1).elim ((f_F_wear er a1).bind fun r4 => if (0 : Int32) < 0 ∨ 1 ≤ (0 : Int32).toNatClampNeg then none else some ((0 : Int32), (vp_updL ou (0 : Int32).toNatClampNeg r4.toInt64))) (fun xk => if xk = 0 then (some ((1 : Int32), ou)) else (none))
abbrev rm_L_wear : Room := { frames := 8, cells := 1, slots := 6, locals := 151 }
set_option maxHeartbeats 4000000 in
set_option maxRecDepth 100000 in
theorem c_L_wear (l : Launch) (dC : Nat → ClassId) (dI : Nat → Nat → Nat) (cA cL : ClassId) (h0 q1 q2 q3 q4 q5 q6 qo sz : Nat) (st pl tk wd er : Nat → Int32) (nx md : Int32) (ou : Nat → Int64) (a1 : Int32) (r : Int32) (ou' : Nat → Int64) (hF : f_L_wear er ou a1 = some (r, ou')) (hfl : l.flags = pinnedFlags ++ [noTraceFlag]) : Met l y_L_wear ws_L_wear rm_L_wear (tx_PH [.ref h0, .int a1, .ref qo] (dC, dI) [(cA, .int), (cL, .long)] (wH cA cL h0 q1 q2 q3 q4 q5 q6 qo st pl tk wd er nx md ou) sz) (va_Qi (S := Unit) (fun z _ => r = z) (fun _ t => va_P (dC, dI) vwCl (wH cA cL h0 q1 q2 q3 q4 q5 q6 qo st pl tk wd er nx md (ou')) t.heap ∧ va_D (va_A (wH cA cL h0 q1 q2 q3 q4 q5 q6 qo st pl tk wd er nx md ou) sz) (wH cA cL h0 q1 q2 q3 q4 q5 q6 qo st pl tk wd er nx md (ou'))) (va_A (wH cA cL h0 q1 q2 q3 q4 q5 q6 qo st pl tk wd er nx md ou) sz)) 1 6 (va_A (wH cA cL h0 q1 q2 q3 q4 q5 q6 qo st pl tk wd er nx md ou) sz) := by
  refine va_MetW (cc := b_L_wear) (maxL := 4) (ret := some .int) (hh := [((0 : Nat), (9 : Nat), (12 : Nat), (13 : Nat))]) (by decide +kernel) rfl ?_
  intro p e s m args below meth c s₁ B hml hv
  obtain ⟨hargs, hsz, hP, hK, hD0, hNw, hE⟩ := hv
  have hx := B.exec
  have hb := B.bytes
  have hr := B.returns
  have hts := atoms_spec (ws := ws_L_wear) B.pre
  have hown : s.vm.findClass "FlashStoreLaw" = some m.cls := findClass_of_methodNamed B.named
  have hlocks := B.notSynchronized
  subst hsz
  have hD := hD0.self (sz := s.heap.size)
  generalize hAe : va_A (wH cA cL h0 q1 q2 q3 q4 q5 q6 qo st pl tk wd er nx md ou) s.heap.size = A at hD ⊢
  have hA : ∀ q : Nat, s.heap.size ≤ q → A q := fun q h => by rw [← hAe]; exact Or.inr h
  have hS : va_S A s.heap s.heap [] := va_S.rf
  have hP : va_P (dC, dI) vwCl (wH cA cL h0 q1 q2 q3 q4 q5 q6 qo st pl tk wd er nx md ou) s.heap := hP
  have hK1 : va_K (dC, dI) vwCl [(cA, .int)] s := hK.sub [0] rfl
  have htab := tx_table B (hts _ List.mem_cons_self)
  have w0 := (hts _ (List.mem_cons_of_mem _ bq_1_139))
  have hl := lv_entry ([.ref h0, .int a1, .ref qo]) (n := 4) (Nat.le_of_ble_eq_true rfl)
  have hen : entryFrame m args 4 = _ := (congrArg (fun z => entryFrame m z 4) hargs).trans (lg_entry_eq m ([.ref h0, .int a1, .ref qo]) 4)
  refine W.eq hen ?_
  clear hen
  generalize (lg_sl ([.ref h0, .int a1, .ref qo]) ++ List.replicate (4 - (lg_sl ([.ref h0, .int a1, .ref qo])).length) Slot.unset).toArray = ls at hl ⊢
  have hl : lv_has ls 4 [(0, .ref h0), (1, .int a1), (2, .ref qo)] := hl
  have hF : ((x_F_wear er a1).elim ((f_F_wear er a1).bind fun r4 => if (0 : Int32) < 0 ∨ 1 ≤ (0 : Int32).toNatClampNeg then none else some ((0 : Int32), (vp_updL ou (0 : Int32).toNatClampNeg r4.toInt64))) (fun xk => if xk = 0 then (some ((1 : Int32), ou)) else (none))) = some (r, ou') := hF
  refine lv_aload_n hx hb d_L_wear_0 rfl (lv_at hl 2 rfl) ?_
  refine lv_iconst (v := (0 : Int32)) hx hb d_L_wear_1 (by decide) ?_
  refine lv_aload_n hx hb d_L_wear_2 rfl (lv_at hl 0 rfl) ?_
  refine lv_iload_n hx hb d_L_wear_3 rfl (lv_at hl 1 rfl) ?_
  rcases tx_or2 hF with ⟨xk, hX, hF⟩ | hF
  · by_cases hk0 : xk = 0
    · have hF := tx_t hk0 hF
      subst hk0
      refine tx_callV (As := [.int a1]) (rest := [.int (0 : Int32), .ref qo]) ⟨hx, hb, hml, hown, hts⟩ (cx_F_wear l dC dI cA h0 q1 q2 q3 q4 q5 q6 st pl tk wd er nx md a1 0 hX hfl) (cwV 1 hts (tg_V bq_2_180 bq_2_181 bq_2_182 bq_1_1 bq_2_183) rfl rfl rfl (by decide +kernel) ⟨Nat.le_of_ble_eq_true rfl, Nat.le_of_ble_eq_true rfl⟩) ⟨tx_blX, (va_recv (ci := 1) (q0 := 0) hK hP rfl rfl), tx_preX (hP.sub (ws' := (wF cA h0 q1 q2 q3 q4 q5 q6 st pl tk wd er nx md)) [0, 1, 2, 3, 4, 5, 6] rfl) hK1 hE⟩ rfl hl.1 (lv_room (Nat.le_of_ble_eq_true rfl)) d_L_wear_4 ⟨Nat.le_of_ble_eq_true rfl, Nat.le_of_ble_eq_true rfl⟩ [] ⟨0, 9, 12, 13⟩ [] htab (fun _ h => nomatch h) (by decide) ⟨by decide, _, w0, tx_cast0 hE⟩ rfl (fun ax H hz1 hk1 => ?_)
      have hS := tx_S1 hS hz1 hk1
      have hP := tx_kp hP hk1
      refine lv_astore_n hx hb d_L_wear_12 rfl hl (by decide) rfl (fun ls hl => ?_)
      have hl : lv_has ls 4 [(3, .ref ax), (0, .ref h0), (1, .int a1), (2, .ref qo)] := hl
      refine lv_iconst (v := (1 : Int32)) hx hb d_L_wear_13 (by decide) ?_
      cases hF
      exact W.iret hx hb hr (fun t ht hW => ⟨⟨_, (), rfl, rfl, by rw [ht]; exact hP, hD⟩, hS.F ht⟩) hS.2.2 d_L_wear_14
    · have hF := tx_f hk0 hF
      cases hF
  · obtain ⟨r4, hc4, hF⟩ := tx_b hF
    refine vp_callSi (W.runV (As := [.int a1]) (rest := [.int (0 : Int32), .ref qo]) ⟨hx, hb, hml, hown, hts⟩ (c_F_wear l dC dI cA h0 q1 q2 q3 q4 q5 q6 st pl tk wd er nx md a1 r4 hc4) (cwV 1 hts (tg_V bq_2_180 bq_2_181 bq_2_182 bq_1_1 bq_2_183) rfl rfl rfl (by decide +kernel) ⟨Nat.le_of_ble_eq_true rfl, Nat.le_of_ble_eq_true rfl⟩) ⟨tx_blR, (va_recv (ci := 1) (q0 := 0) hK hP rfl rfl), tx_preR (hP.sub (ws' := (wF cA h0 q1 q2 q3 q4 q5 q6 st pl tk wd er nx md)) [0, 1, 2, 3, 4, 5, 6] rfl) hK1⟩ rfl rfl hl.1 rfl (lv_room (Nat.le_of_ble_eq_true rfl)) d_L_wear_4 ⟨Nat.zero_le _, Nat.zero_le _⟩) (fun zz hz => ?_)
    subst hz
    refine lv_i2l hx hb d_L_wear_7 rfl ?_
    obtain ⟨hi8, hF⟩ := tx_g hF
    refine va_last hx hb hK hP hD hS 7 1 rfl rfl hi8 d_L_wear_8 (fun H locs hP hD hS => ?_)
    have hP : va_P (dC, dI) vwCl (wH cA cL h0 q1 q2 q3 q4 q5 q6 qo st pl tk wd er nx md (vp_updL ou (0 : Int32).toNatClampNeg r4.toInt64)) H := hP
    have hD : va_D A (wH cA cL h0 q1 q2 q3 q4 q5 q6 qo st pl tk wd er nx md (vp_updL ou (0 : Int32).toNatClampNeg r4.toInt64)) := hD
    refine lv_goto hx hb d_L_wear_9 (tgt := 15) (by decide) ?_
    refine lv_iconst (v := (0 : Int32)) hx hb d_L_wear_15 (by decide) ?_
    cases hF
    refine W.widen (k := 1) (n := 6) (by decide) (by decide) ?_
    exact W.iret hx hb hr (fun t ht hW => ⟨⟨_, (), rfl, rfl, by rw [ht]; exact hP, hD⟩, hS.F ht⟩) hS.2.2 d_L_wear_16
