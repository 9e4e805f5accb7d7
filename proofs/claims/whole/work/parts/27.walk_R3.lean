abbrev rm_R_read : Room := { frames := 3, cells := 0, slots := 0, locals := 73 }
set_option maxHeartbeats 4000000 in
set_option maxRecDepth 100000 in
theorem c_R_read (l : Launch) (dC : Nat → ClassId) (dI : Nat → Nat → Nat) (cA : ClassId) (h0 q1 q2 q3 q4 q5 q6 q7 sz : Nat) (rm fl us lg se we wh : Nat → Int32) (th nx md wr : Int32) (a1 : Int32) (r : Int64) (th' : Int32) (wr' : Int32) (hF : f_R_read rm fl wh th wr a1 = some (r, th', wr')) : Met l y_R_read ws_R_read rm_R_read (tx_PW [.ref h0, .int a1] (dC, dI) [(cA, .int)] (wR cA h0 q1 q2 q3 q4 q5 q6 q7 rm fl us lg se we wh th nx md wr) sz) (va_Ql (S := Unit) (fun z _ => r = z) (fun _ t => va_P (dC, dI) vwCl (wR cA h0 q1 q2 q3 q4 q5 q6 q7 rm fl us lg se we wh (th') nx md (wr')) t.heap ∧ va_D (va_A (wR cA h0 q1 q2 q3 q4 q5 q6 q7 rm fl us lg se we wh th nx md wr) sz) (wR cA h0 q1 q2 q3 q4 q5 q6 q7 rm fl us lg se we wh (th') nx md (wr'))) (va_A (wR cA h0 q1 q2 q3 q4 q5 q6 q7 rm fl us lg se we wh th nx md wr) sz)) 0 0 (va_A (wR cA h0 q1 q2 q3 q4 q5 q6 q7 rm fl us lg se we wh th nx md wr) sz) := by
  refine Met.ofW (cc := b_R_read) (maxL := 3) (ret := some .long) (by decide +kernel) rfl ?_
  intro p e s m args below meth c s₁ B hml hv
  obtain ⟨hargs, hsz, hP, hK, hD0, hNw⟩ := hv
  have hx := B.exec
  have hb := B.bytes
  have hr := B.returns
  have hts := atoms_spec (ws := ws_R_read) B.pre
  have hown : s.vm.findClass "FlashStoreModel" = some m.cls := findClass_of_methodNamed B.named
  have hlocks := B.notSynchronized
  subst hsz
  have hD := hD0.self (sz := s.heap.size)
  generalize hAe : va_A (wR cA h0 q1 q2 q3 q4 q5 q6 q7 rm fl us lg se we wh th nx md wr) s.heap.size = A at hD ⊢
  have hA : ∀ q : Nat, s.heap.size ≤ q → A q := fun q h => by rw [← hAe]; exact Or.inr h
  have hS : va_S A s.heap s.heap [] := va_S.rf
  have hP : va_P (dC, dI) vwCl (wR cA h0 q1 q2 q3 q4 q5 q6 q7 rm fl us lg se we wh th nx md wr) s.heap := hP
  have w0 := (hts _ (List.mem_cons_of_mem _ bq_2_192))
  have w1 := (hts _ (List.mem_cons_of_mem _ bq_2_199))
  have hl := lv_entry ([.ref h0, .int a1]) (n := 3) (Nat.le_of_ble_eq_true rfl)
  have hen : entryFrame m args 3 = _ := (congrArg (fun z => entryFrame m z 3) hargs).trans (lg_entry_eq m ([.ref h0, .int a1]) 3)
  refine W.eq hen ?_
  clear hen
  generalize (lg_sl ([.ref h0, .int a1]) ++ List.replicate (3 - (lg_sl ([.ref h0, .int a1])).length) Slot.unset).toArray = ls at hl ⊢
  have hl : lv_has ls 3 [(0, .ref h0), (1, .int a1)] := hl
  have J77 : ∀ (H : Heap) (locs : List Loc) (ls : Array Slot) (th : Int32) (wr : Int32) (z0 : Int64), va_P (dC, dI) vwCl (wR cA h0 q1 q2 q3 q4 q5 q6 q7 rm fl us lg se we wh th nx md wr) H → va_D A (wR cA h0 q1 q2 q3 q4 q5 q6 q7 rm fl us lg se we wh th nx md wr) → va_S A s.heap H locs → lv_has ls 3 [] → f_R_read_J77 rm fl wh th wr z0 = some (r, th', wr') → W p l e (headSpec ws_R_read rm_R_read).room s m args below meth c H locs 0 0 (MQ below (va_Ql (S := Unit) (fun z _ => r = z) (fun _ t => va_P (dC, dI) vwCl (wR cA h0 q1 q2 q3 q4 q5 q6 q7 rm fl us lg se we wh (th') nx md (wr')) t.heap ∧ va_D A (wR cA h0 q1 q2 q3 q4 q5 q6 q7 rm fl us lg se we wh (th') nx md (wr'))) A) args s 0 0 A) (F0 m 77 ls [.long z0]) := by
    intro H locs ls th wr z0 hP hD hS hl hF
    have hF : (some (z0, th, wr)) = some (r, th', wr') := hF
    cases hF
    exact W.lret hx hb hr (fun t ht hW => ⟨⟨_, (), rfl, rfl, by rw [ht]; exact hP, hD⟩, hS.F ht⟩) hS.2.2 d_R_read_77
  have J58 : ∀ (H : Heap) (locs : List Loc) (ls : Array Slot) (th : Int32) (wr : Int32) (v2 : Int32) (z0 : Int32), va_P (dC, dI) vwCl (wR cA h0 q1 q2 q3 q4 q5 q6 q7 rm fl us lg se we wh th nx md wr) H → va_D A (wR cA h0 q1 q2 q3 q4 q5 q6 q7 rm fl us lg se we wh th nx md wr) → va_S A s.heap H locs → lv_has ls 3 [(0, .ref h0), (2, .int v2)] → f_R_read_J58 rm fl wh th wr v2 z0 = some (r, th', wr') → W p l e (headSpec ws_R_read rm_R_read).room s m args below meth c H locs 0 0 (MQ below (va_Ql (S := Unit) (fun z _ => r = z) (fun _ t => va_P (dC, dI) vwCl (wR cA h0 q1 q2 q3 q4 q5 q6 q7 rm fl us lg se we wh (th') nx md (wr')) t.heap ∧ va_D A (wR cA h0 q1 q2 q3 q4 q5 q6 q7 rm fl us lg se we wh (th') nx md (wr'))) A) args s 0 0 A) (F0 m 58 ls [.int z0, .ref h0]) := by
    intro H locs ls th wr v2 z0 hP hD hS hl hF
    have hF : (if z0 ≤ 0 then ((f_R_contentOf rm fl wr v2).bind fun (r74, wr74) => f_R_read_J77 rm fl wh z0 wr74 r74) else (f_R_read_J77 rm fl wh z0 wr (0 : Int64))) = some (r, th', wr') := hF
    refine va_put (D := (dC, dI)) (ci := 2) (v := .int z0) (ty := .int) (C := "FlashStoreModel") (T := TR) (N := 11) hx hb hts inTR tyTR tyTR_ok nmTR hown hK hP hD hS 0 rfl rfl 0 (by decide) w0 (fun _ h9 => h9) rfl (by decide +kernel) rfl rfl (Nat.le_of_ble_eq_true rfl) d_R_read_58 (fun H locs hP hD hS => ?_)
    have hP : va_P (dC, dI) vwCl (wR cA h0 q1 q2 q3 q4 q5 q6 q7 rm fl us lg se we wh z0 nx md wr) H := hP
    have hD : va_D A (wR cA h0 q1 q2 q3 q4 q5 q6 q7 rm fl us lg se we wh z0 nx md wr) := hD
    refine lv_aload_n hx hb d_R_read_61 rfl (lv_at hl 0 rfl) ?_
    refine va_get (D := (dC, dI)) (ci := 2) (v := .int z0) (C := "FlashStoreModel") (T := TR) (N := 11) hx hb hts inTR hown hK hP 0 rfl rfl 0 (by decide) w0 (fun _ h9 => h9) rfl d_R_read_62 ?_
    refine lv_if_le hx hb d_R_read_65 (tgt := 72) (by decide) (fun h65 => ?_) (fun h65 => ?_)
    · have hF := tx_t h65 hF
      refine lv_aload_n hx hb d_R_read_72 rfl (lv_at hl 0 rfl) ?_
      refine lv_iload_n hx hb d_R_read_73 rfl (lv_at hl 1 rfl) ?_
      obtain ⟨⟨r74, wr74⟩, hc74, hF⟩ := tx_b hF
      try dsimp only at hF
      have hPc := hP.sub (ws' := (wR cA h0 q1 q2 q3 q4 q5 q6 q7 rm fl us lg se we wh z0 nx md wr)) [0, 1, 2, 3, 4, 5, 6, 7] rfl
      have hDc := hD.sub (ws' := (wR cA h0 q1 q2 q3 q4 q5 q6 q7 rm fl us lg se we wh z0 nx md wr)) [0, 1, 2, 3, 4, 5, 6, 7] (by decide) rfl
      have hFc := va_free (wc := (wR cA h0 q1 q2 q3 q4 q5 q6 q7 rm fl us lg se we wh z0 nx md wr)) hD hS hA [0, 1, 2, 3, 4, 5, 6, 7] rfl
      refine va_calll (va_runV (As := [.int v2]) (rest := []) ⟨hx, hb, hml, hown, hts⟩ (c_R_contentOf l dC dI cA h0 q1 q2 q3 q4 q5 q6 q7 H.size rm fl us lg se we wh z0 nx md wr v2 r74 wr74 hc74) (cwV 1 hts (tg_V bq_3_51 bq_3_53 bq_s_27 bq_1_4 bq_3_54) rfl rfl rfl (by decide +kernel) ⟨Nat.le_of_ble_eq_true rfl, Nat.le_of_ble_eq_true rfl⟩) ⟨tx_blW, (va_recv (ci := 2) (q0 := 0) hK hP rfl rfl), tx_preW hPc hDc hK hNw⟩ rfl rfl hl.1 rfl (lv_room (Nat.le_of_ble_eq_true rfl)) d_R_read_74 ⟨Nat.zero_le _, Nat.zero_le _⟩) hS (fun q _ h => hFc q h) hFc (fun zz _u t H locs ht hvm hw hB hz1 hk1 hS => ?_)
      subst hw
      obtain ⟨hP1, hD1⟩ := hB
      rw [ht] at hP1
      obtain ⟨hP2, hD2⟩ := va_join (wr := []) (w1 := (wR cA h0 q1 q2 q3 q4 q5 q6 q7 rm fl us lg se we wh z0 nx md wr74)) hP hD [0, 1, 2, 3, 4, 5, 6, 7] [] rfl rfl (by decide) (by decide) hk1 hFc hP1 hD1
      have hP := hP2.sub (ws' := (wR cA h0 q1 q2 q3 q4 q5 q6 q7 rm fl us lg se we wh z0 nx md wr74)) [0, 1, 2, 3, 4, 5, 6, 7] rfl
      have hD := hD2.sub (ws' := (wR cA h0 q1 q2 q3 q4 q5 q6 q7 rm fl us lg se we wh z0 nx md wr74)) [0, 1, 2, 3, 4, 5, 6, 7] (by decide) rfl
      exact J77 _ _ _ z0 wr74 r74 hP hD hS (lv_sub hl [] rfl) hF
    · have hF := tx_f h65 hF
      refine lv_lconst (v := (0 : Int64)) hx hb d_R_read_68 (by decide) ?_
      refine lv_goto hx hb d_R_read_69 (tgt := 77) (by decide) ?_
      exact J77 _ _ _ z0 wr (0 : Int64) hP hD hS (lv_sub hl [] rfl) hF
  have J15 : ∀ (H : Heap) (locs : List Loc) (ls : Array Slot) (th : Int32) (wr : Int32) (v1 : Int32) (z0 : Int32), va_P (dC, dI) vwCl (wR cA h0 q1 q2 q3 q4 q5 q6 q7 rm fl us lg se we wh th nx md wr) H → va_D A (wR cA h0 q1 q2 q3 q4 q5 q6 q7 rm fl us lg se we wh th nx md wr) → va_S A s.heap H locs → lv_has ls 3 [(0, .ref h0), (1, .int v1)] → f_R_read_J15 rm fl wh th wr v1 z0 = some (r, th', wr') → W p l e (headSpec ws_R_read rm_R_read).room s m args below meth c H locs 0 0 (MQ below (va_Ql (S := Unit) (fun z _ => r = z) (fun _ t => va_P (dC, dI) vwCl (wR cA h0 q1 q2 q3 q4 q5 q6 q7 rm fl us lg se we wh (th') nx md (wr')) t.heap ∧ va_D A (wR cA h0 q1 q2 q3 q4 q5 q6 q7 rm fl us lg se we wh (th') nx md (wr'))) A) args s 0 0 A) (F0 m 15 ls [.int z0, .ref h0]) := by
    intro H locs ls th wr v1 z0 hP hD hS hl hF
    have hF : (if z0 ≤ 0 then (if v1 < 0 ∨ 8 ≤ v1.toNatClampNeg then none else if 0 ≤ ((wh v1.toNatClampNeg) - (1 : Int32)) then ((f_R_readable rm fl wr ((wh v1.toNatClampNeg) - (1 : Int32))).bind fun (r47, wr47) => if r47 = 0 then (f_R_read_J58 rm fl wh z0 wr47 ((wh v1.toNatClampNeg) - (1 : Int32)) (3 : Int32)) else (f_R_read_J58 rm fl wh z0 wr47 ((wh v1.toNatClampNeg) - (1 : Int32)) (0 : Int32))) else (f_R_read_J58 rm fl wh z0 wr ((wh v1.toNatClampNeg) - (1 : Int32)) (2 : Int32))) else (some ((0 : Int64), z0, wr))) = some (r, th', wr') := hF
    refine va_put (D := (dC, dI)) (ci := 2) (v := .int z0) (ty := .int) (C := "FlashStoreModel") (T := TR) (N := 11) hx hb hts inTR tyTR tyTR_ok nmTR hown hK hP hD hS 0 rfl rfl 0 (by decide) w0 (fun _ h9 => h9) rfl (by decide +kernel) rfl rfl (Nat.le_of_ble_eq_true rfl) d_R_read_15 (fun H locs hP hD hS => ?_)
    have hP : va_P (dC, dI) vwCl (wR cA h0 q1 q2 q3 q4 q5 q6 q7 rm fl us lg se we wh z0 nx md wr) H := hP
    have hD : va_D A (wR cA h0 q1 q2 q3 q4 q5 q6 q7 rm fl us lg se we wh z0 nx md wr) := hD
    refine lv_aload_n hx hb d_R_read_18 rfl (lv_at hl 0 rfl) ?_
    refine va_get (D := (dC, dI)) (ci := 2) (v := .int z0) (C := "FlashStoreModel") (T := TR) (N := 11) hx hb hts inTR hown hK hP 0 rfl rfl 0 (by decide) w0 (fun _ h9 => h9) rfl d_R_read_19 ?_
    refine lv_if_le hx hb d_R_read_22 (tgt := 27) (by decide) (fun h22 => ?_) (fun h22 => ?_)
    · have hF := tx_t h22 hF
      refine lv_aload_n hx hb d_R_read_27 rfl (lv_at hl 0 rfl) ?_
      refine va_get (D := (dC, dI)) (ci := 2) (v := .ref q7) (C := "FlashStoreModel") (T := TR) (N := 11) hx hb hts inTR hown hK hP 0 rfl rfl 7 (by decide) w1 (fun _ h9 => h9) rfl d_R_read_28 ?_
      refine lv_iload_n hx hb d_R_read_31 rfl (lv_at hl 1 rfl) ?_
      obtain ⟨hi32, hF⟩ := tx_g hF
      refine va_iald hx hb hK hP 7 0 rfl rfl hi32 d_R_read_32 ?_
      refine lv_iconst (v := (1 : Int32)) hx hb d_R_read_33 (by decide) ?_
      refine lv_isub hx hb d_R_read_34 ?_
      refine lv_istore_n hx hb d_R_read_35 rfl hl (by decide) rfl (fun ls hl => ?_)
      have hl : lv_has ls 3 [(2, .int ((wh v1.toNatClampNeg) - (1 : Int32))), (0, .ref h0), (1, .int v1)] := hl
      refine lv_aload_n hx hb d_R_read_36 rfl (lv_at hl 1 rfl) ?_
      refine lv_iload_n hx hb d_R_read_37 rfl (lv_at hl 0 rfl) ?_
      refine lv_if_ge hx hb d_R_read_38 (tgt := 45) (by decide) (fun h38 => ?_) (fun h38 => ?_)
      · have hF := tx_t h38 hF
        refine lv_aload_n hx hb d_R_read_45 rfl (lv_at hl 1 rfl) ?_
        refine lv_iload_n hx hb d_R_read_46 rfl (lv_at hl 0 rfl) ?_
        obtain ⟨⟨r47, wr47⟩, hc47, hF⟩ := tx_b hF
        try dsimp only at hF
        have hPc := hP.sub (ws' := (wR cA h0 q1 q2 q3 q4 q5 q6 q7 rm fl us lg se we wh z0 nx md wr)) [0, 1, 2, 3, 4, 5, 6, 7] rfl
        have hDc := hD.sub (ws' := (wR cA h0 q1 q2 q3 q4 q5 q6 q7 rm fl us lg se we wh z0 nx md wr)) [0, 1, 2, 3, 4, 5, 6, 7] (by decide) rfl
        have hFc := va_free (wc := (wR cA h0 q1 q2 q3 q4 q5 q6 q7 rm fl us lg se we wh z0 nx md wr)) hD hS hA [0, 1, 2, 3, 4, 5, 6, 7] rfl
        refine va_calli (va_runV (As := [.int ((wh v1.toNatClampNeg) - (1 : Int32))]) (rest := [.ref h0]) ⟨hx, hb, hml, hown, hts⟩ (c_R_readable l dC dI cA h0 q1 q2 q3 q4 q5 q6 q7 H.size rm fl us lg se we wh z0 nx md wr ((wh v1.toNatClampNeg) - (1 : Int32)) r47 wr47 hc47) (cwV 1 hts (tg_V bq_3_43 bq_3_45 bq_s_25 bq_1_4 bq_3_46) rfl rfl rfl (by decide +kernel) ⟨Nat.le_of_ble_eq_true rfl, Nat.le_of_ble_eq_true rfl⟩) ⟨tx_blW, (va_recv (ci := 2) (q0 := 0) hK hP rfl rfl), tx_preW hPc hDc hK hNw⟩ rfl rfl hl.1 rfl (lv_room (Nat.le_of_ble_eq_true rfl)) d_R_read_47 ⟨Nat.zero_le _, Nat.zero_le _⟩) hS (fun q _ h => hFc q h) hFc (fun zz _u t H locs ht hvm hw hB hz1 hk1 hS => ?_)
        subst hw
        obtain ⟨hP1, hD1⟩ := hB
        rw [ht] at hP1
        obtain ⟨hP2, hD2⟩ := va_join (wr := []) (w1 := (wR cA h0 q1 q2 q3 q4 q5 q6 q7 rm fl us lg se we wh z0 nx md wr47)) hP hD [0, 1, 2, 3, 4, 5, 6, 7] [] rfl rfl (by decide) (by decide) hk1 hFc hP1 hD1
        have hP := hP2.sub (ws' := (wR cA h0 q1 q2 q3 q4 q5 q6 q7 rm fl us lg se we wh z0 nx md wr47)) [0, 1, 2, 3, 4, 5, 6, 7] rfl
        have hD := hD2.sub (ws' := (wR cA h0 q1 q2 q3 q4 q5 q6 q7 rm fl us lg se we wh z0 nx md wr47)) [0, 1, 2, 3, 4, 5, 6, 7] (by decide) rfl
        refine lv_if_eq hx hb d_R_read_50 (tgt := 57) (by decide) (fun h50 => ?_) (fun h50 => ?_)
        · have hF := tx_t h50 hF
          refine lv_iconst (v := (3 : Int32)) hx hb d_R_read_57 (by decide) ?_
          exact J58 _ _ _ z0 wr47 ((wh v1.toNatClampNeg) - (1 : Int32)) (3 : Int32) hP hD hS (lv_sub hl [1, 0] rfl) hF
        · have hF := tx_f h50 hF
          refine lv_iconst (v := (0 : Int32)) hx hb d_R_read_53 (by decide) ?_
          refine lv_goto hx hb d_R_read_54 (tgt := 58) (by decide) ?_
          exact J58 _ _ _ z0 wr47 ((wh v1.toNatClampNeg) - (1 : Int32)) (0 : Int32) hP hD hS (lv_sub hl [1, 0] rfl) hF
      · have hF := tx_f h38 hF
        refine lv_iconst (v := (2 : Int32)) hx hb d_R_read_41 (by decide) ?_
        refine lv_goto hx hb d_R_read_42 (tgt := 58) (by decide) ?_
        exact J58 _ _ _ z0 wr ((wh v1.toNatClampNeg) - (1 : Int32)) (2 : Int32) hP hD hS (lv_sub hl [1, 0] rfl) hF
    · have hF := tx_f h22 hF
      refine lv_lconst (v := (0 : Int64)) hx hb d_R_read_25 (by decide) ?_
      cases hF
      exact W.lret hx hb hr (fun t ht hW => ⟨⟨_, (), rfl, rfl, by rw [ht]; exact hP, hD⟩, hS.F ht⟩) hS.2.2 d_R_read_26
  have hF : ((f_R_out a1 (8 : Int32)).bind fun r4 => if r4 = 0 then (f_R_read_J15 rm fl wh th wr a1 (0 : Int32)) else (f_R_read_J15 rm fl wh th wr a1 (1 : Int32))) = some (r, th', wr') := hF
  refine lv_aload_n hx hb d_R_read_0 rfl (lv_at hl 0 rfl) ?_
  refine lv_iload_n hx hb d_R_read_1 rfl (lv_at hl 1 rfl) ?_
  refine lv_bipush (v := (8 : Int32)) hx hb d_R_read_2 (by decide) ?_
  obtain ⟨r4, hc4, hF⟩ := tx_b hF
  refine vp_callSi (W.runS (As := [.int a1, .int (8 : Int32)]) (rest := [.ref h0]) ⟨hx, hb, hml, hown, hts⟩ (c_R_out l a1 (8 : Int32) r4 hc4) (va_cwS 2 hts (tg_S bq_2_235 bq_2_236 bq_1_4 bq_2_237) rfl rfl rfl (by decide +kernel) ⟨Nat.le_of_ble_eq_true rfl, Nat.le_of_ble_eq_true rfl⟩) ⟨tx_bl0, tx_pre0⟩ rfl rfl hl.1 rfl (lv_room (Nat.le_of_ble_eq_true rfl)) d_R_read_4 ⟨Nat.zero_le _, Nat.zero_le _⟩) (fun zz hz => ?_)
  subst hz
  refine lv_if_eq hx hb d_R_read_7 (tgt := 14) (by decide) (fun h7 => ?_) (fun h7 => ?_)
  · have hF := tx_t h7 hF
    refine lv_iconst (v := (0 : Int32)) hx hb d_R_read_14 (by decide) ?_
    exact J15 _ _ _ th wr a1 (0 : Int32) hP hD hS hl hF
  · have hF := tx_f h7 hF
    refine lv_iconst (v := (1 : Int32)) hx hb d_R_read_10 (by decide) ?_
    refine lv_goto hx hb d_R_read_11 (tgt := 15) (by decide) ?_
    exact J15 _ _ _ th wr a1 (1 : Int32) hP hD hS hl hF
abbrev rm_R_trim : Room := { frames := 1, cells := 0, slots := 0, locals := 21 }
set_option maxHeartbeats 4000000 in
set_option maxRecDepth 100000 in
theorem c_R_trim (l : Launch) (dC : Nat → ClassId) (dI : Nat → Nat → Nat) (cA : ClassId) (h0 q1 q2 q3 q4 q5 q6 q7 sz : Nat) (rm fl us lg se we wh : Nat → Int32) (th nx md wr : Int32) (a1 : Int32) (r : Int32) (us' : Nat → Int32) (wh' : Nat → Int32) (th' : Int32) (hF : f_R_trim us wh th a1 = some (r, us', wh', th')) : Met l y_R_trim ws_R_trim rm_R_trim (tx_PW [.ref h0, .int a1] (dC, dI) [(cA, .int)] (wR cA h0 q1 q2 q3 q4 q5 q6 q7 rm fl us lg se we wh th nx md wr) sz) (va_Qi (S := Unit) (fun z _ => r = z) (fun _ t => va_P (dC, dI) vwCl (wR cA h0 q1 q2 q3 q4 q5 q6 q7 rm fl (us') lg se we (wh') (th') nx md wr) t.heap ∧ va_D (va_A (wR cA h0 q1 q2 q3 q4 q5 q6 q7 rm fl us lg se we wh th nx md wr) sz) (wR cA h0 q1 q2 q3 q4 q5 q6 q7 rm fl (us') lg se we (wh') (th') nx md wr)) (va_A (wR cA h0 q1 q2 q3 q4 q5 q6 q7 rm fl us lg se we wh th nx md wr) sz)) 0 0 (va_A (wR cA h0 q1 q2 q3 q4 q5 q6 q7 rm fl us lg se we wh th nx md wr) sz) := by
  refine Met.ofW (cc := b_R_trim) (maxL := 2) (ret := some .boolean) (by decide +kernel) rfl ?_
  intro p e s m args below meth c s₁ B hml hv
  obtain ⟨hargs, hsz, hP, hK, hD0, hNw⟩ := hv
  have hx := B.exec
  have hb := B.bytes
  have hr := B.returns
  have hts := atoms_spec (ws := ws_R_trim) B.pre
  have hown : s.vm.findClass "FlashStoreModel" = some m.cls := findClass_of_methodNamed B.named
  have hlocks := B.notSynchronized
  subst hsz
  have hD := hD0.self (sz := s.heap.size)
  generalize hAe : va_A (wR cA h0 q1 q2 q3 q4 q5 q6 q7 rm fl us lg se we wh th nx md wr) s.heap.size = A at hD ⊢
  have hA : ∀ q : Nat, s.heap.size ≤ q → A q := fun q h => by rw [← hAe]; exact Or.inr h
  have hS : va_S A s.heap s.heap [] := va_S.rf
  have hP : va_P (dC, dI) vwCl (wR cA h0 q1 q2 q3 q4 q5 q6 q7 rm fl us lg se we wh th nx md wr) s.heap := hP
  have w0 := (hts _ (List.mem_cons_of_mem _ bq_2_192))
  have w1 := (hts _ (List.mem_cons_of_mem _ bq_2_199))
  have w2 := (hts _ (List.mem_cons_of_mem _ bq_2_195))
  have hl := lv_entry ([.ref h0, .int a1]) (n := 2) (Nat.le_of_ble_eq_true rfl)
  have hen : entryFrame m args 2 = _ := (congrArg (fun z => entryFrame m z 2) hargs).trans (lg_entry_eq m ([.ref h0, .int a1]) 2)
  refine W.eq hen ?_
  clear hen
  generalize (lg_sl ([.ref h0, .int a1]) ++ List.replicate (2 - (lg_sl ([.ref h0, .int a1])).length) Slot.unset).toArray = ls at hl ⊢
  have hl : lv_has ls 2 [(0, .ref h0), (1, .int a1)] := hl
  have J34 : ∀ (H : Heap) (locs : List Loc) (ls : Array Slot) (us : Nat → Int32) (wh : Nat → Int32) (th : Int32), va_P (dC, dI) vwCl (wR cA h0 q1 q2 q3 q4 q5 q6 q7 rm fl us lg se we wh th nx md wr) H → va_D A (wR cA h0 q1 q2 q3 q4 q5 q6 q7 rm fl us lg se we wh th nx md wr) → va_S A s.heap H locs → lv_has ls 2 [] → f_R_trim_J34 us wh th = some (r, us', wh', th') → W p l e (headSpec ws_R_trim rm_R_trim).room s m args below meth c H locs 0 0 (MQ below (va_Qi (S := Unit) (fun z _ => r = z) (fun _ t => va_P (dC, dI) vwCl (wR cA h0 q1 q2 q3 q4 q5 q6 q7 rm fl (us') lg se we (wh') (th') nx md wr) t.heap ∧ va_D A (wR cA h0 q1 q2 q3 q4 q5 q6 q7 rm fl (us') lg se we (wh') (th') nx md wr)) A) args s 0 0 A) (F0 m 34 ls []) := by
    intro H locs ls us wh th hP hD hS hl hF
    have hF : (if ¬ ((0 : Int32) = 0 ∨ (0 : Int32) = 1) then none else some ((0 : Int32), us, wh, th)) = some (r, us', wh', th') := hF
    refine lv_iconst (v := (0 : Int32)) hx hb d_R_trim_34 (by decide) ?_
    obtain ⟨hz, hF⟩ := tx_g hF
    have hz := Classical.not_not.mp hz
    cases hF
    exact W.zret hx hb hr (tx_z hz) (fun t ht hW => ⟨⟨_, (), rfl, rfl, by rw [ht]; exact hP, hD⟩, hS.F ht⟩) hS.2.2 d_R_trim_35
  have J15 : ∀ (H : Heap) (locs : List Loc) (ls : Array Slot) (us : Nat → Int32) (wh : Nat → Int32) (th : Int32) (v1 : Int32) (z0 : Int32), va_P (dC, dI) vwCl (wR cA h0 q1 q2 q3 q4 q5 q6 q7 rm fl us lg se we wh th nx md wr) H → va_D A (wR cA h0 q1 q2 q3 q4 q5 q6 q7 rm fl us lg se we wh th nx md wr) → va_S A s.heap H locs → lv_has ls 2 [(0, .ref h0), (1, .int v1)] → f_R_trim_J15 us wh th v1 z0 = some (r, us', wh', th') → W p l e (headSpec ws_R_trim rm_R_trim).room s m args below meth c H locs 0 0 (MQ below (va_Qi (S := Unit) (fun z _ => r = z) (fun _ t => va_P (dC, dI) vwCl (wR cA h0 q1 q2 q3 q4 q5 q6 q7 rm fl (us') lg se we (wh') (th') nx md wr) t.heap ∧ va_D A (wR cA h0 q1 q2 q3 q4 q5 q6 q7 rm fl (us') lg se we (wh') (th') nx md wr)) A) args s 0 0 A) (F0 m 15 ls [.int z0, .ref h0]) := by
    intro H locs ls us wh th v1 z0 hP hD hS hl hF
    have hF : (if 0 < z0 then (f_R_trim_J34 us wh z0) else (if v1 < 0 ∨ 8 ≤ v1.toNatClampNeg then none else if (wh v1.toNatClampNeg) = 0 then (f_R_trim_J34 us wh z0) else (if ((wh v1.toNatClampNeg) - (1 : Int32)) < 0 ∨ 16 ≤ ((wh v1.toNatClampNeg) - (1 : Int32)).toNatClampNeg then none else if ¬ ((1 : Int32) = 0 ∨ (1 : Int32) = 1) then none else some ((1 : Int32), (upd us ((wh v1.toNatClampNeg) - (1 : Int32)).toNatClampNeg (2 : Int32)), (upd wh v1.toNatClampNeg (0 : Int32)), z0)))) = some (r, us', wh', th') := hF
    refine va_put (D := (dC, dI)) (ci := 2) (v := .int z0) (ty := .int) (C := "FlashStoreModel") (T := TR) (N := 11) hx hb hts inTR tyTR tyTR_ok nmTR hown hK hP hD hS 0 rfl rfl 0 (by decide) w0 (fun _ h9 => h9) rfl (by decide +kernel) rfl rfl (Nat.le_of_ble_eq_true rfl) d_R_trim_15 (fun H locs hP hD hS => ?_)
    have hP : va_P (dC, dI) vwCl (wR cA h0 q1 q2 q3 q4 q5 q6 q7 rm fl us lg se we wh z0 nx md wr) H := hP
    have hD : va_D A (wR cA h0 q1 q2 q3 q4 q5 q6 q7 rm fl us lg se we wh z0 nx md wr) := hD
    refine lv_aload_n hx hb d_R_trim_18 rfl (lv_at hl 0 rfl) ?_
    refine va_get (D := (dC, dI)) (ci := 2) (v := .int z0) (C := "FlashStoreModel") (T := TR) (N := 11) hx hb hts inTR hown hK hP 0 rfl rfl 0 (by decide) w0 (fun _ h9 => h9) rfl d_R_trim_19 ?_
    refine lv_if_gt hx hb d_R_trim_22 (tgt := 34) (by decide) (fun h22 => ?_) (fun h22 => ?_)
    · have hF := tx_t h22 hF
      exact J34 _ _ _ us wh z0 hP hD hS (lv_sub hl [] rfl) hF
    · have hF := tx_f h22 hF
      refine lv_aload_n hx hb d_R_trim_25 rfl (lv_at hl 0 rfl) ?_
      refine va_get (D := (dC, dI)) (ci := 2) (v := .ref q7) (C := "FlashStoreModel") (T := TR) (N := 11) hx hb hts inTR hown hK hP 0 rfl rfl 7 (by decide) w1 (fun _ h9 => h9) rfl d_R_trim_26 ?_
      refine lv_iload_n hx hb d_R_trim_29 rfl (lv_at hl 1 rfl) ?_
      obtain ⟨hi30, hF⟩ := tx_g hF
      refine va_iald hx hb hK hP 7 0 rfl rfl hi30 d_R_trim_30 ?_
      refine lv_if_ne hx hb d_R_trim_31 (tgt := 36) (by decide) (fun h31 => ?_) (fun h31 => ?_)
      · have hF := tx_f h31 hF
        refine lv_aload_n hx hb d_R_trim_36 rfl (lv_at hl 0 rfl) ?_
        refine va_get (D := (dC, dI)) (ci := 2) (v := .ref q3) (C := "FlashStoreModel") (T := TR) (N := 11) hx hb hts inTR hown hK hP 0 rfl rfl 3 (by decide) w2 (fun _ h9 => h9) rfl d_R_trim_37 ?_
        refine lv_aload_n hx hb d_R_trim_40 rfl (lv_at hl 0 rfl) ?_
        refine va_get (D := (dC, dI)) (ci := 2) (v := .ref q7) (C := "FlashStoreModel") (T := TR) (N := 11) hx hb hts inTR hown hK hP 0 rfl rfl 7 (by decide) w1 (fun _ h9 => h9) rfl d_R_trim_41 ?_
        refine lv_iload_n hx hb d_R_trim_44 rfl (lv_at hl 1 rfl) ?_
        refine va_iald hx hb hK hP 7 0 rfl rfl hi30 d_R_trim_45 ?_
        refine lv_iconst (v := (1 : Int32)) hx hb d_R_trim_46 (by decide) ?_
        refine lv_isub hx hb d_R_trim_47 ?_
        refine lv_iconst (v := (2 : Int32)) hx hb d_R_trim_48 (by decide) ?_
        obtain ⟨hi49, hF⟩ := tx_g hF
        refine va_iast hx hb hK hP hD hS 3 0 rfl rfl hi49 d_R_trim_49 (fun H locs hP hD hS => ?_)
        have hP : va_P (dC, dI) vwCl (wR cA h0 q1 q2 q3 q4 q5 q6 q7 rm fl (upd us ((wh v1.toNatClampNeg) - (1 : Int32)).toNatClampNeg (2 : Int32)) lg se we wh z0 nx md wr) H := hP
        have hD : va_D A (wR cA h0 q1 q2 q3 q4 q5 q6 q7 rm fl (upd us ((wh v1.toNatClampNeg) - (1 : Int32)).toNatClampNeg (2 : Int32)) lg se we wh z0 nx md wr) := hD
        refine lv_aload_n hx hb d_R_trim_50 rfl (lv_at hl 0 rfl) ?_
        refine va_get (D := (dC, dI)) (ci := 2) (v := .ref q7) (C := "FlashStoreModel") (T := TR) (N := 11) hx hb hts inTR hown hK hP 0 rfl rfl 7 (by decide) w1 (fun _ h9 => h9) rfl d_R_trim_51 ?_
        refine lv_iload_n hx hb d_R_trim_54 rfl (lv_at hl 1 rfl) ?_
        refine lv_iconst (v := (0 : Int32)) hx hb d_R_trim_55 (by decide) ?_
        refine va_iast hx hb hK hP hD hS 7 0 rfl rfl hi30 d_R_trim_56 (fun H locs hP hD hS => ?_)
        have hP : va_P (dC, dI) vwCl (wR cA h0 q1 q2 q3 q4 q5 q6 q7 rm fl (upd us ((wh v1.toNatClampNeg) - (1 : Int32)).toNatClampNeg (2 : Int32)) lg se we (upd wh v1.toNatClampNeg (0 : Int32)) z0 nx md wr) H := hP
        have hD : va_D A (wR cA h0 q1 q2 q3 q4 q5 q6 q7 rm fl (upd us ((wh v1.toNatClampNeg) - (1 : Int32)).toNatClampNeg (2 : Int32)) lg se we (upd wh v1.toNatClampNeg (0 : Int32)) z0 nx md wr) := hD
        refine lv_iconst (v := (1 : Int32)) hx hb d_R_trim_57 (by decide) ?_
        obtain ⟨hz, hF⟩ := tx_g hF
        have hz := Classical.not_not.mp hz
        cases hF
        exact W.zret hx hb hr (tx_z hz) (fun t ht hW => ⟨⟨_, (), rfl, rfl, by rw [ht]; exact hP, hD⟩, hS.F ht⟩) hS.2.2 d_R_trim_58
      · have hF := tx_t h31 hF
        exact J34 _ _ _ us wh z0 hP hD hS (lv_sub hl [] rfl) hF
  have hF : ((f_R_out a1 (8 : Int32)).bind fun r4 => if r4 = 0 then (f_R_trim_J15 us wh th a1 (0 : Int32)) else (f_R_trim_J15 us wh th a1 (1 : Int32))) = some (r, us', wh', th') := hF
  refine lv_aload_n hx hb d_R_trim_0 rfl (lv_at hl 0 rfl) ?_
  refine lv_iload_n hx hb d_R_trim_1 rfl (lv_at hl 1 rfl) ?_
  refine lv_bipush (v := (8 : Int32)) hx hb d_R_trim_2 (by decide) ?_
  obtain ⟨r4, hc4, hF⟩ := tx_b hF
  refine vp_callSi (W.runS (As := [.int a1, .int (8 : Int32)]) (rest := [.ref h0]) ⟨hx, hb, hml, hown, hts⟩ (c_R_out l a1 (8 : Int32) r4 hc4) (va_cwS 2 hts (tg_S bq_2_235 bq_2_236 bq_1_4 bq_2_237) rfl rfl rfl (by decide +kernel) ⟨Nat.le_of_ble_eq_true rfl, Nat.le_of_ble_eq_true rfl⟩) ⟨tx_bl0, tx_pre0⟩ rfl rfl hl.1 rfl (lv_room (Nat.le_of_ble_eq_true rfl)) d_R_trim_4 ⟨Nat.zero_le _, Nat.zero_le _⟩) (fun zz hz => ?_)
  subst hz
  refine lv_if_eq hx hb d_R_trim_7 (tgt := 14) (by decide) (fun h7 => ?_) (fun h7 => ?_)
  · have hF := tx_t h7 hF
    refine lv_iconst (v := (0 : Int32)) hx hb d_R_trim_14 (by decide) ?_
    exact J15 _ _ _ us wh th a1 (0 : Int32) hP hD hS hl hF
  · have hF := tx_f h7 hF
    refine lv_iconst (v := (1 : Int32)) hx hb d_R_trim_10 (by decide) ?_
    refine lv_goto hx hb d_R_trim_11 (tgt := 15) (by decide) ?_
    exact J15 _ _ _ us wh th a1 (1 : Int32) hP hD hS hl hF
abbrev rm_R_mount : Room := { frames := 2, cells := 0, slots := 0, locals := 49 }
set_option maxHeartbeats 4000000 in
set_option maxRecDepth 100000 in
theorem c_R_mount (l : Launch) (dC : Nat → ClassId) (dI : Nat → Nat → Nat) (cA : ClassId) (h0 q1 q2 q3 q4 q5 q6 q7 sz : Nat) (rm fl us lg se we wh : Nat → Int32) (th nx md wr : Int32)  (r : Int32) (us' : Nat → Int32) (lg' : Nat → Int32) (se' : Nat → Int32) (wh' : Nat → Int32) (th' : Int32) (nx' : Int32) (wr' : Int32) (hF : f_R_mount rm fl us lg se wh th nx wr = some (r, us', lg', se', wh', th', nx', wr')) : Met l y_R_mount ws_R_mount rm_R_mount (tx_PW [.ref h0] (dC, dI) [(cA, .int)] (wR cA h0 q1 q2 q3 q4 q5 q6 q7 rm fl us lg se we wh th nx md wr) sz) (va_Qi (S := Unit) (fun z _ => r = z) (fun _ t => va_P (dC, dI) vwCl (wR cA h0 q1 q2 q3 q4 q5 q6 q7 rm fl (us') (lg') (se') we (wh') (th') (nx') md (wr')) t.heap ∧ va_D (va_A (wR cA h0 q1 q2 q3 q4 q5 q6 q7 rm fl us lg se we wh th nx md wr) sz) (wR cA h0 q1 q2 q3 q4 q5 q6 q7 rm fl (us') (lg') (se') we (wh') (th') (nx') md (wr'))) (va_A (wR cA h0 q1 q2 q3 q4 q5 q6 q7 rm fl us lg se we wh th nx md wr) sz)) 0 0 (va_A (wR cA h0 q1 q2 q3 q4 q5 q6 q7 rm fl us lg se we wh th nx md wr) sz) := by
  refine Met.ofW (cc := b_R_mount) (maxL := 7) (ret := some .int) (by decide +kernel) rfl ?_
  intro p e s m args below meth c s₁ B hml hv
  obtain ⟨hargs, hsz, hP, hK, hD0, hNw⟩ := hv
  have hx := B.exec
  have hb := B.bytes
  have hr := B.returns
  have hts := atoms_spec (ws := ws_R_mount) B.pre
  have hown : s.vm.findClass "FlashStoreModel" = some m.cls := findClass_of_methodNamed B.named
  have hlocks := B.notSynchronized
  subst hsz
  have hD := hD0.self (sz := s.heap.size)
  generalize hAe : va_A (wR cA h0 q1 q2 q3 q4 q5 q6 q7 rm fl us lg se we wh th nx md wr) s.heap.size = A at hD ⊢
  have hA : ∀ q : Nat, s.heap.size ≤ q → A q := fun q h => by rw [← hAe]; exact Or.inr h
  have hS : va_S A s.heap s.heap [] := va_S.rf
  have hP : va_P (dC, dI) vwCl (wR cA h0 q1 q2 q3 q4 q5 q6 q7 rm fl us lg se we wh th nx md wr) s.heap := hP
  have w0 := (hts _ (List.mem_cons_of_mem _ bq_2_192))
  have w1 := (hts _ (List.mem_cons_of_mem _ bq_2_199))
  have w2 := (hts _ (List.mem_cons_of_mem _ bq_2_194))
  have w3 := (hts _ (List.mem_cons_of_mem _ bq_2_195))
  have w4 := hts (.constant "FlashStoreModel" 104 (65535 : Int32)) (by decide +kernel)
  have w5 := (hts _ (List.mem_cons_of_mem _ bq_2_200))
  have w6 := hts (.constant "FlashStoreModel" 37 (32768 : Int32)) (by decide +kernel)
  have w7 := (hts _ (List.mem_cons_of_mem _ bq_2_196))
  have w8 := (hts _ (List.mem_cons_of_mem _ bq_2_197))
  have hl := lv_entry ([.ref h0]) (n := 7) (Nat.le_of_ble_eq_true rfl)
  have hen : entryFrame m args 7 = _ := (congrArg (fun z => entryFrame m z 7) hargs).trans (lg_entry_eq m ([.ref h0]) 7)
  refine W.eq hen ?_
  clear hen
  generalize (lg_sl ([.ref h0]) ++ List.replicate (7 - (lg_sl ([.ref h0])).length) Slot.unset).toArray = ls at hl ⊢
  have hl : lv_has ls 7 [(0, .ref h0)] := hl
  have J236 : ∀ (rc : (Nat → Int32) → (Nat → Int32) → (Nat → Int32) → (Nat → Int32) → (Nat → Int32) → (Nat → Int32) → Int32 → Int32 → Int32 → Nat → Int32 → Int32 → Int32 → Option (Int32 × (Nat → Int32) × (Nat → Int32) × (Nat → Int32) × (Nat → Int32) × Int32 × Int32 × Int32)) (hrec0 : ∀ (H : Heap) (locs : List Loc) (ls : Array Slot) (us : Nat → Int32) (lg : Nat → Int32) (se : Nat → Int32) (wh : Nat → Int32) (th : Int32) (nx : Int32) (wr : Int32) (v1 : Int32), va_P (dC, dI) vwCl (wR cA h0 q1 q2 q3 q4 q5 q6 q7 rm fl us lg se we wh th nx md wr) H → va_D A (wR cA h0 q1 q2 q3 q4 q5 q6 q7 rm fl us lg se we wh th nx md wr) → va_S A s.heap H locs → lv_has ls 7 [(0, .ref h0), (1, .int v1)] → rc rm fl us lg se wh th nx wr 0 v1 0 0 = some (r, us', lg', se', wh', th', nx', wr') → W p l e (headSpec ws_R_mount rm_R_mount).room s m args below meth c H locs 0 0 (MQ below (va_Qi (S := Unit) (fun z _ => r = z) (fun _ t => va_P (dC, dI) vwCl (wR cA h0 q1 q2 q3 q4 q5 q6 q7 rm fl (us') (lg') (se') we (wh') (th') (nx') md (wr')) t.heap ∧ va_D A (wR cA h0 q1 q2 q3 q4 q5 q6 q7 rm fl (us') (lg') (se') we (wh') (th') (nx') md (wr'))) A) args s 0 0 A) (F0 m 7 ls [])) (hrec1 : ∀ (H : Heap) (locs : List Loc) (ls : Array Slot) (us : Nat → Int32) (lg : Nat → Int32) (se : Nat → Int32) (wh : Nat → Int32) (th : Int32) (nx : Int32) (wr : Int32) (v1 : Int32) (v2 : Int32) (v3 : Int32), va_P (dC, dI) vwCl (wR cA h0 q1 q2 q3 q4 q5 q6 q7 rm fl us lg se we wh th nx md wr) H → va_D A (wR cA h0 q1 q2 q3 q4 q5 q6 q7 rm fl us lg se we wh th nx md wr) → va_S A s.heap H locs → lv_has ls 7 [(0, .ref h0), (1, .int v1), (2, .int v2), (3, .int v3)] → rc rm fl us lg se wh th nx wr 1 v1 v2 v3 = some (r, us', lg', se', wh', th', nx', wr') → W p l e (headSpec ws_R_mount rm_R_mount).room s m args below meth c H locs 0 0 (MQ below (va_Qi (S := Unit) (fun z _ => r = z) (fun _ t => va_P (dC, dI) vwCl (wR cA h0 q1 q2 q3 q4 q5 q6 q7 rm fl (us') (lg') (se') we (wh') (th') (nx') md (wr')) t.heap ∧ va_D A (wR cA h0 q1 q2 q3 q4 q5 q6 q7 rm fl (us') (lg') (se') we (wh') (th') (nx') md (wr'))) A) args s 0 0 A) (F0 m 32 ls [])), ∀ (H : Heap) (locs : List Loc) (ls : Array Slot) (us : Nat → Int32) (lg : Nat → Int32) (se : Nat → Int32) (wh : Nat → Int32) (th : Int32) (nx : Int32) (wr : Int32) (v2 : Int32) (z0 : Int32), va_P (dC, dI) vwCl (wR cA h0 q1 q2 q3 q4 q5 q6 q7 rm fl us lg se we wh th nx md wr) H → va_D A (wR cA h0 q1 q2 q3 q4 q5 q6 q7 rm fl us lg se we wh th nx md wr) → va_S A s.heap H locs → lv_has ls 7 [(2, .int v2)] → f_R_mount_J236 rc rm fl us lg se wh th nx wr v2 z0 = some (r, us', lg', se', wh', th', nx', wr') → W p l e (headSpec ws_R_mount rm_R_mount).room s m args below meth c H locs 0 0 (MQ below (va_Qi (S := Unit) (fun z _ => r = z) (fun _ t => va_P (dC, dI) vwCl (wR cA h0 q1 q2 q3 q4 q5 q6 q7 rm fl (us') (lg') (se') we (wh') (th') (nx') md (wr')) t.heap ∧ va_D A (wR cA h0 q1 q2 q3 q4 q5 q6 q7 rm fl (us') (lg') (se') we (wh') (th') (nx') md (wr'))) A) args s 0 0 A) (F0 m 236 ls [.int z0, .ref h0]) := by
    intro rc hrec0 hrec1
    intro H locs ls us lg se wh th nx wr v2 z0 hP hD hS hl hF
    have hF : (some (v2, us, lg, se, wh, th, z0, wr)) = some (r, us', lg', se', wh', th', nx', wr') := hF
    refine va_put (D := (dC, dI)) (ci := 2) (v := .int z0) (ty := .int) (C := "FlashStoreModel") (T := TR) (N := 11) hx hb hts inTR tyTR tyTR_ok nmTR hown hK hP hD hS 0 rfl rfl 8 (by decide) w5 (fun _ h9 => h9) rfl (by decide +kernel) rfl rfl (Nat.le_of_ble_eq_true rfl) d_R_mount_236 (fun H locs hP hD hS => ?_)
    have hP : va_P (dC, dI) vwCl (wR cA h0 q1 q2 q3 q4 q5 q6 q7 rm fl us lg se we wh th z0 md wr) H := hP
    have hD : va_D A (wR cA h0 q1 q2 q3 q4 q5 q6 q7 rm fl us lg se we wh th z0 md wr) := hD
    refine lv_iload_n hx hb d_R_mount_239 rfl (lv_at hl 0 rfl) ?_
    cases hF
    exact W.iret hx hb hr (fun t ht hW => ⟨⟨_, (), rfl, rfl, by rw [ht]; exact hP, hD⟩, hS.F ht⟩) hS.2.2 d_R_mount_240
  have J214 : ∀ (rc : (Nat → Int32) → (Nat → Int32) → (Nat → Int32) → (Nat → Int32) → (Nat → Int32) → (Nat → Int32) → Int32 → Int32 → Int32 → Nat → Int32 → Int32 → Int32 → Option (Int32 × (Nat → Int32) × (Nat → Int32) × (Nat → Int32) × (Nat → Int32) × Int32 × Int32 × Int32)) (hrec0 : ∀ (H : Heap) (locs : List Loc) (ls : Array Slot) (us : Nat → Int32) (lg : Nat → Int32) (se : Nat → Int32) (wh : Nat → Int32) (th : Int32) (nx : Int32) (wr : Int32) (v1 : Int32), va_P (dC, dI) vwCl (wR cA h0 q1 q2 q3 q4 q5 q6 q7 rm fl us lg se we wh th nx md wr) H → va_D A (wR cA h0 q1 q2 q3 q4 q5 q6 q7 rm fl us lg se we wh th nx md wr) → va_S A s.heap H locs → lv_has ls 7 [(0, .ref h0), (1, .int v1)] → rc rm fl us lg se wh th nx wr 0 v1 0 0 = some (r, us', lg', se', wh', th', nx', wr') → W p l e (headSpec ws_R_mount rm_R_mount).room s m args below meth c H locs 0 0 (MQ below (va_Qi (S := Unit) (fun z _ => r = z) (fun _ t => va_P (dC, dI) vwCl (wR cA h0 q1 q2 q3 q4 q5 q6 q7 rm fl (us') (lg') (se') we (wh') (th') (nx') md (wr')) t.heap ∧ va_D A (wR cA h0 q1 q2 q3 q4 q5 q6 q7 rm fl (us') (lg') (se') we (wh') (th') (nx') md (wr'))) A) args s 0 0 A) (F0 m 7 ls [])) (hrec1 : ∀ (H : Heap) (locs : List Loc) (ls : Array Slot) (us : Nat → Int32) (lg : Nat → Int32) (se : Nat → Int32) (wh : Nat → Int32) (th : Int32) (nx : Int32) (wr : Int32) (v1 : Int32) (v2 : Int32) (v3 : Int32), va_P (dC, dI) vwCl (wR cA h0 q1 q2 q3 q4 q5 q6 q7 rm fl us lg se we wh th nx md wr) H → va_D A (wR cA h0 q1 q2 q3 q4 q5 q6 q7 rm fl us lg se we wh th nx md wr) → va_S A s.heap H locs → lv_has ls 7 [(0, .ref h0), (1, .int v1), (2, .int v2), (3, .int v3)] → rc rm fl us lg se wh th nx wr 1 v1 v2 v3 = some (r, us', lg', se', wh', th', nx', wr') → W p l e (headSpec ws_R_mount rm_R_mount).room s m args below meth c H locs 0 0 (MQ below (va_Qi (S := Unit) (fun z _ => r = z) (fun _ t => va_P (dC, dI) vwCl (wR cA h0 q1 q2 q3 q4 q5 q6 q7 rm fl (us') (lg') (se') we (wh') (th') (nx') md (wr')) t.heap ∧ va_D A (wR cA h0 q1 q2 q3 q4 q5 q6 q7 rm fl (us') (lg') (se') we (wh') (th') (nx') md (wr'))) A) args s 0 0 A) (F0 m 32 ls [])), ∀ (H : Heap) (locs : List Loc) (ls : Array Slot) (us : Nat → Int32) (lg : Nat → Int32) (se : Nat → Int32) (wh : Nat → Int32) (th : Int32) (nx : Int32) (wr : Int32) (v1 : Int32) (v2 : Int32) (v3 : Int32), va_P (dC, dI) vwCl (wR cA h0 q1 q2 q3 q4 q5 q6 q7 rm fl us lg se we wh th nx md wr) H → va_D A (wR cA h0 q1 q2 q3 q4 q5 q6 q7 rm fl us lg se we wh th nx md wr) → va_S A s.heap H locs → lv_has ls 7 [(0, .ref h0), (1, .int v1), (2, .int v2), (3, .int v3)] → f_R_mount_J214 rc rm fl us lg se wh th nx wr v1 v2 v3 = some (r, us', lg', se', wh', th', nx', wr') → W p l e (headSpec ws_R_mount rm_R_mount).room s m args below meth c H locs 0 0 (MQ below (va_Qi (S := Unit) (fun z _ => r = z) (fun _ t => va_P (dC, dI) vwCl (wR cA h0 q1 q2 q3 q4 q5 q6 q7 rm fl (us') (lg') (se') we (wh') (th') (nx') md (wr')) t.heap ∧ va_D A (wR cA h0 q1 q2 q3 q4 q5 q6 q7 rm fl (us') (lg') (se') we (wh') (th') (nx') md (wr'))) A) args s 0 0 A) (F0 m 214 ls []) := by
    intro rc hrec0 hrec1
    intro H locs ls us lg se wh th nx wr v1 v2 v3 hP hD hS hl hF
    have hF : (rc rm fl us lg se wh th nx wr 1 v1 v2 (v3 + (1 : Int32))) = some (r, us', lg', se', wh', th', nx', wr') := hF
    refine lv_iinc (k := 3) (v := (v3 + (1 : Int32))) hx hb d_R_mount_214 hl rfl rfl (by decide) rfl (fun ls hl => ?_)
    have hl : lv_has ls 7 [(3, .int (v3 + (1 : Int32))), (0, .ref h0), (1, .int v1), (2, .int v2)] := hl
    refine lv_goto hx hb d_R_mount_217 (tgt := 32) (by decide) ?_
    exact hrec1 _ _ _ us lg se wh th nx wr v1 v2 (v3 + (1 : Int32)) hP hD hS (lv_sub hl [1, 2, 3, 0] rfl) hF
  have J207 : ∀ (rc : (Nat → Int32) → (Nat → Int32) → (Nat → Int32) → (Nat → Int32) → (Nat → Int32) → (Nat → Int32) → Int32 → Int32 → Int32 → Nat → Int32 → Int32 → Int32 → Option (Int32 × (Nat → Int32) × (Nat → Int32) × (Nat → Int32) × (Nat → Int32) × Int32 × Int32 × Int32)) (hrec0 : ∀ (H : Heap) (locs : List Loc) (ls : Array Slot) (us : Nat → Int32) (lg : Nat → Int32) (se : Nat → Int32) (wh : Nat → Int32) (th : Int32) (nx : Int32) (wr : Int32) (v1 : Int32), va_P (dC, dI) vwCl (wR cA h0 q1 q2 q3 q4 q5 q6 q7 rm fl us lg se we wh th nx md wr) H → va_D A (wR cA h0 q1 q2 q3 q4 q5 q6 q7 rm fl us lg se we wh th nx md wr) → va_S A s.heap H locs → lv_has ls 7 [(0, .ref h0), (1, .int v1)] → rc rm fl us lg se wh th nx wr 0 v1 0 0 = some (r, us', lg', se', wh', th', nx', wr') → W p l e (headSpec ws_R_mount rm_R_mount).room s m args below meth c H locs 0 0 (MQ below (va_Qi (S := Unit) (fun z _ => r = z) (fun _ t => va_P (dC, dI) vwCl (wR cA h0 q1 q2 q3 q4 q5 q6 q7 rm fl (us') (lg') (se') we (wh') (th') (nx') md (wr')) t.heap ∧ va_D A (wR cA h0 q1 q2 q3 q4 q5 q6 q7 rm fl (us') (lg') (se') we (wh') (th') (nx') md (wr'))) A) args s 0 0 A) (F0 m 7 ls [])) (hrec1 : ∀ (H : Heap) (locs : List Loc) (ls : Array Slot) (us : Nat → Int32) (lg : Nat → Int32) (se : Nat → Int32) (wh : Nat → Int32) (th : Int32) (nx : Int32) (wr : Int32) (v1 : Int32) (v2 : Int32) (v3 : Int32), va_P (dC, dI) vwCl (wR cA h0 q1 q2 q3 q4 q5 q6 q7 rm fl us lg se we wh th nx md wr) H → va_D A (wR cA h0 q1 q2 q3 q4 q5 q6 q7 rm fl us lg se we wh th nx md wr) → va_S A s.heap H locs → lv_has ls 7 [(0, .ref h0), (1, .int v1), (2, .int v2), (3, .int v3)] → rc rm fl us lg se wh th nx wr 1 v1 v2 v3 = some (r, us', lg', se', wh', th', nx', wr') → W p l e (headSpec ws_R_mount rm_R_mount).room s m args below meth c H locs 0 0 (MQ below (va_Qi (S := Unit) (fun z _ => r = z) (fun _ t => va_P (dC, dI) vwCl (wR cA h0 q1 q2 q3 q4 q5 q6 q7 rm fl (us') (lg') (se') we (wh') (th') (nx') md (wr')) t.heap ∧ va_D A (wR cA h0 q1 q2 q3 q4 q5 q6 q7 rm fl (us') (lg') (se') we (wh') (th') (nx') md (wr'))) A) args s 0 0 A) (F0 m 32 ls [])), ∀ (H : Heap) (locs : List Loc) (ls : Array Slot) (us : Nat → Int32) (lg : Nat → Int32) (se : Nat → Int32) (wh : Nat → Int32) (th : Int32) (nx : Int32) (wr : Int32) (v2 : Int32) (v3 : Int32), va_P (dC, dI) vwCl (wR cA h0 q1 q2 q3 q4 q5 q6 q7 rm fl us lg se we wh th nx md wr) H → va_D A (wR cA h0 q1 q2 q3 q4 q5 q6 q7 rm fl us lg se we wh th nx md wr) → va_S A s.heap H locs → lv_has ls 7 [(0, .ref h0), (2, .int v2), (3, .int v3)] → f_R_mount_J207 rc rm fl us lg se wh th nx wr v2 v3 = some (r, us', lg', se', wh', th', nx', wr') → W p l e (headSpec ws_R_mount rm_R_mount).room s m args below meth c H locs 0 0 (MQ below (va_Qi (S := Unit) (fun z _ => r = z) (fun _ t => va_P (dC, dI) vwCl (wR cA h0 q1 q2 q3 q4 q5 q6 q7 rm fl (us') (lg') (se') we (wh') (th') (nx') md (wr')) t.heap ∧ va_D A (wR cA h0 q1 q2 q3 q4 q5 q6 q7 rm fl (us') (lg') (se') we (wh') (th') (nx') md (wr'))) A) args s 0 0 A) (F0 m 207 ls []) := by
    intro rc hrec0 hrec1
    intro H locs ls us lg se wh th nx wr v2 v3 hP hD hS hl hF
    have hF : (if v3 < 0 ∨ 16 ≤ v3.toNatClampNeg then none else f_R_mount_J214 rc rm fl us lg se wh th nx wr (se v3.toNatClampNeg) v2 v3) = some (r, us', lg', se', wh', th', nx', wr') := hF
    refine lv_aload_n hx hb d_R_mount_207 rfl (lv_at hl 0 rfl) ?_
    refine va_get (D := (dC, dI)) (ci := 2) (v := .ref q5) (C := "FlashStoreModel") (T := TR) (N := 11) hx hb hts inTR hown hK hP 0 rfl rfl 5 (by decide) w8 (fun _ h9 => h9) rfl d_R_mount_208 ?_
    refine lv_iload_n hx hb d_R_mount_211 rfl (lv_at hl 2 rfl) ?_
    obtain ⟨hi212, hF⟩ := tx_g hF
    refine va_iald hx hb hK hP 5 0 rfl rfl hi212 d_R_mount_212 ?_
    refine lv_istore_n hx hb d_R_mount_213 rfl hl (by decide) rfl (fun ls hl => ?_)
    have hl : lv_has ls 7 [(1, .int (se v3.toNatClampNeg)), (0, .ref h0), (2, .int v2), (3, .int v3)] := hl
    exact J214 _ hrec0 hrec1 _ _ _ us lg se wh th nx wr (se v3.toNatClampNeg) v2 v3 hP hD hS (lv_sub hl [1, 0, 2, 3] rfl) hF
  have J190 : ∀ (rc : (Nat → Int32) → (Nat → Int32) → (Nat → Int32) → (Nat → Int32) → (Nat → Int32) → (Nat → Int32) → Int32 → Int32 → Int32 → Nat → Int32 → Int32 → Int32 → Option (Int32 × (Nat → Int32) × (Nat → Int32) × (Nat → Int32) × (Nat → Int32) × Int32 × Int32 × Int32)) (hrec0 : ∀ (H : Heap) (locs : List Loc) (ls : Array Slot) (us : Nat → Int32) (lg : Nat → Int32) (se : Nat → Int32) (wh : Nat → Int32) (th : Int32) (nx : Int32) (wr : Int32) (v1 : Int32), va_P (dC, dI) vwCl (wR cA h0 q1 q2 q3 q4 q5 q6 q7 rm fl us lg se we wh th nx md wr) H → va_D A (wR cA h0 q1 q2 q3 q4 q5 q6 q7 rm fl us lg se we wh th nx md wr) → va_S A s.heap H locs → lv_has ls 7 [(0, .ref h0), (1, .int v1)] → rc rm fl us lg se wh th nx wr 0 v1 0 0 = some (r, us', lg', se', wh', th', nx', wr') → W p l e (headSpec ws_R_mount rm_R_mount).room s m args below meth c H locs 0 0 (MQ below (va_Qi (S := Unit) (fun z _ => r = z) (fun _ t => va_P (dC, dI) vwCl (wR cA h0 q1 q2 q3 q4 q5 q6 q7 rm fl (us') (lg') (se') we (wh') (th') (nx') md (wr')) t.heap ∧ va_D A (wR cA h0 q1 q2 q3 q4 q5 q6 q7 rm fl (us') (lg') (se') we (wh') (th') (nx') md (wr'))) A) args s 0 0 A) (F0 m 7 ls [])) (hrec1 : ∀ (H : Heap) (locs : List Loc) (ls : Array Slot) (us : Nat → Int32) (lg : Nat → Int32) (se : Nat → Int32) (wh : Nat → Int32) (th : Int32) (nx : Int32) (wr : Int32) (v1 : Int32) (v2 : Int32) (v3 : Int32), va_P (dC, dI) vwCl (wR cA h0 q1 q2 q3 q4 q5 q6 q7 rm fl us lg se we wh th nx md wr) H → va_D A (wR cA h0 q1 q2 q3 q4 q5 q6 q7 rm fl us lg se we wh th nx md wr) → va_S A s.heap H locs → lv_has ls 7 [(0, .ref h0), (1, .int v1), (2, .int v2), (3, .int v3)] → rc rm fl us lg se wh th nx wr 1 v1 v2 v3 = some (r, us', lg', se', wh', th', nx', wr') → W p l e (headSpec ws_R_mount rm_R_mount).room s m args below meth c H locs 0 0 (MQ below (va_Qi (S := Unit) (fun z _ => r = z) (fun _ t => va_P (dC, dI) vwCl (wR cA h0 q1 q2 q3 q4 q5 q6 q7 rm fl (us') (lg') (se') we (wh') (th') (nx') md (wr')) t.heap ∧ va_D A (wR cA h0 q1 q2 q3 q4 q5 q6 q7 rm fl (us') (lg') (se') we (wh') (th') (nx') md (wr'))) A) args s 0 0 A) (F0 m 32 ls [])), ∀ (H : Heap) (locs : List Loc) (ls : Array Slot) (us : Nat → Int32) (lg : Nat → Int32) (se : Nat → Int32) (wh : Nat → Int32) (th : Int32) (nx : Int32) (wr : Int32) (v1 : Int32) (v2 : Int32) (v3 : Int32), va_P (dC, dI) vwCl (wR cA h0 q1 q2 q3 q4 q5 q6 q7 rm fl us lg se we wh th nx md wr) H → va_D A (wR cA h0 q1 q2 q3 q4 q5 q6 q7 rm fl us lg se we wh th nx md wr) → va_S A s.heap H locs → lv_has ls 7 [(0, .ref h0), (1, .int v1), (2, .int v2), (3, .int v3)] → f_R_mount_J190 rc rm fl us lg se wh th nx wr v1 v2 v3 = some (r, us', lg', se', wh', th', nx', wr') → W p l e (headSpec ws_R_mount rm_R_mount).room s m args below meth c H locs 0 0 (MQ below (va_Qi (S := Unit) (fun z _ => r = z) (fun _ t => va_P (dC, dI) vwCl (wR cA h0 q1 q2 q3 q4 q5 q6 q7 rm fl (us') (lg') (se') we (wh') (th') (nx') md (wr')) t.heap ∧ va_D A (wR cA h0 q1 q2 q3 q4 q5 q6 q7 rm fl (us') (lg') (se') we (wh') (th') (nx') md (wr'))) A) args s 0 0 A) (F0 m 190 ls []) := by
    intro rc hrec0 hrec1
    intro H locs ls us lg se wh th nx wr v1 v2 v3 hP hD hS hl hF
    have hF : (if v1 < 0 then (f_R_mount_J207 rc rm fl us lg se wh th nx wr v2 v3) else (if v3 < 0 ∨ 16 ≤ v3.toNatClampNeg then none else (f_R_newer (se v3.toNatClampNeg) v1).bind fun r201 => if r201 = 0 then (f_R_mount_J214 rc rm fl us lg se wh th nx wr v1 v2 v3) else (f_R_mount_J207 rc rm fl us lg se wh th nx wr v2 v3))) = some (r, us', lg', se', wh', th', nx', wr') := hF
    refine lv_iload_n hx hb d_R_mount_190 rfl (lv_at hl 1 rfl) ?_
    refine lv_if_lt hx hb d_R_mount_191 (tgt := 207) (by decide) (fun h191 => ?_) (fun h191 => ?_)
    · have hF := tx_t h191 hF
      exact J207 _ hrec0 hrec1 _ _ _ us lg se wh th nx wr v2 v3 hP hD hS (lv_sub hl [0, 2, 3] rfl) hF
    · have hF := tx_f h191 hF
      refine lv_aload_n hx hb d_R_mount_194 rfl (lv_at hl 0 rfl) ?_
      refine va_get (D := (dC, dI)) (ci := 2) (v := .ref q5) (C := "FlashStoreModel") (T := TR) (N := 11) hx hb hts inTR hown hK hP 0 rfl rfl 5 (by decide) w8 (fun _ h9 => h9) rfl d_R_mount_195 ?_
      refine lv_iload_n hx hb d_R_mount_198 rfl (lv_at hl 3 rfl) ?_
      obtain ⟨hi199, hF⟩ := tx_g hF
      refine va_iald hx hb hK hP 5 0 rfl rfl hi199 d_R_mount_199 ?_
      refine lv_iload_n hx hb d_R_mount_200 rfl (lv_at hl 1 rfl) ?_
      obtain ⟨r201, hc201, hF⟩ := tx_b hF
      refine vp_callSi (W.runS (As := [.int (se v3.toNatClampNeg), .int v1]) (rest := []) ⟨hx, hb, hml, hown, hts⟩ (c_R_newer l (se v3.toNatClampNeg) v1 r201 hc201) (va_cwS 2 hts (tg_S bq_3_85 bq_3_86 bq_1_4 bq_3_87) rfl rfl rfl (by decide +kernel) ⟨Nat.le_of_ble_eq_true rfl, Nat.le_of_ble_eq_true rfl⟩) ⟨tx_bl0, tx_pre0⟩ rfl rfl hl.1 rfl (lv_room (Nat.le_of_ble_eq_true rfl)) d_R_mount_201 ⟨Nat.zero_le _, Nat.zero_le _⟩) (fun zz hz => ?_)
      subst hz
      refine lv_if_eq hx hb d_R_mount_204 (tgt := 214) (by decide) (fun h204 => ?_) (fun h204 => ?_)
      · have hF := tx_t h204 hF
        exact J214 _ hrec0 hrec1 _ _ _ us lg se wh th nx wr v1 v2 v3 hP hD hS hl hF
      · have hF := tx_f h204 hF
        exact J207 _ hrec0 hrec1 _ _ _ us lg se wh th nx wr v2 v3 hP hD hS (lv_sub hl [0, 2, 3] rfl) hF
  have J173 : ∀ (rc : (Nat → Int32) → (Nat → Int32) → (Nat → Int32) → (Nat → Int32) → (Nat → Int32) → (Nat → Int32) → Int32 → Int32 → Int32 → Nat → Int32 → Int32 → Int32 → Option (Int32 × (Nat → Int32) × (Nat → Int32) × (Nat → Int32) × (Nat → Int32) × Int32 × Int32 × Int32)) (hrec0 : ∀ (H : Heap) (locs : List Loc) (ls : Array Slot) (us : Nat → Int32) (lg : Nat → Int32) (se : Nat → Int32) (wh : Nat → Int32) (th : Int32) (nx : Int32) (wr : Int32) (v1 : Int32), va_P (dC, dI) vwCl (wR cA h0 q1 q2 q3 q4 q5 q6 q7 rm fl us lg se we wh th nx md wr) H → va_D A (wR cA h0 q1 q2 q3 q4 q5 q6 q7 rm fl us lg se we wh th nx md wr) → va_S A s.heap H locs → lv_has ls 7 [(0, .ref h0), (1, .int v1)] → rc rm fl us lg se wh th nx wr 0 v1 0 0 = some (r, us', lg', se', wh', th', nx', wr') → W p l e (headSpec ws_R_mount rm_R_mount).room s m args below meth c H locs 0 0 (MQ below (va_Qi (S := Unit) (fun z _ => r = z) (fun _ t => va_P (dC, dI) vwCl (wR cA h0 q1 q2 q3 q4 q5 q6 q7 rm fl (us') (lg') (se') we (wh') (th') (nx') md (wr')) t.heap ∧ va_D A (wR cA h0 q1 q2 q3 q4 q5 q6 q7 rm fl (us') (lg') (se') we (wh') (th') (nx') md (wr'))) A) args s 0 0 A) (F0 m 7 ls [])) (hrec1 : ∀ (H : Heap) (locs : List Loc) (ls : Array Slot) (us : Nat → Int32) (lg : Nat → Int32) (se : Nat → Int32) (wh : Nat → Int32) (th : Int32) (nx : Int32) (wr : Int32) (v1 : Int32) (v2 : Int32) (v3 : Int32), va_P (dC, dI) vwCl (wR cA h0 q1 q2 q3 q4 q5 q6 q7 rm fl us lg se we wh th nx md wr) H → va_D A (wR cA h0 q1 q2 q3 q4 q5 q6 q7 rm fl us lg se we wh th nx md wr) → va_S A s.heap H locs → lv_has ls 7 [(0, .ref h0), (1, .int v1), (2, .int v2), (3, .int v3)] → rc rm fl us lg se wh th nx wr 1 v1 v2 v3 = some (r, us', lg', se', wh', th', nx', wr') → W p l e (headSpec ws_R_mount rm_R_mount).room s m args below meth c H locs 0 0 (MQ below (va_Qi (S := Unit) (fun z _ => r = z) (fun _ t => va_P (dC, dI) vwCl (wR cA h0 q1 q2 q3 q4 q5 q6 q7 rm fl (us') (lg') (se') we (wh') (th') (nx') md (wr')) t.heap ∧ va_D A (wR cA h0 q1 q2 q3 q4 q5 q6 q7 rm fl (us') (lg') (se') we (wh') (th') (nx') md (wr'))) A) args s 0 0 A) (F0 m 32 ls [])), ∀ (H : Heap) (locs : List Loc) (ls : Array Slot) (us : Nat → Int32) (lg : Nat → Int32) (se : Nat → Int32) (wh : Nat → Int32) (th : Int32) (nx : Int32) (wr : Int32) (v1 : Int32) (v2 : Int32) (v3 : Int32) (v5 : Int32), va_P (dC, dI) vwCl (wR cA h0 q1 q2 q3 q4 q5 q6 q7 rm fl us lg se we wh th nx md wr) H → va_D A (wR cA h0 q1 q2 q3 q4 q5 q6 q7 rm fl us lg se we wh th nx md wr) → va_S A s.heap H locs → lv_has ls 7 [(0, .ref h0), (1, .int v1), (2, .int v2), (3, .int v3), (5, .int v5)] → f_R_mount_J173 rc rm fl us lg se wh th nx wr v1 v2 v3 v5 = some (r, us', lg', se', wh', th', nx', wr') → W p l e (headSpec ws_R_mount rm_R_mount).room s m args below meth c H locs 0 0 (MQ below (va_Qi (S := Unit) (fun z _ => r = z) (fun _ t => va_P (dC, dI) vwCl (wR cA h0 q1 q2 q3 q4 q5 q6 q7 rm fl (us') (lg') (se') we (wh') (th') (nx') md (wr')) t.heap ∧ va_D A (wR cA h0 q1 q2 q3 q4 q5 q6 q7 rm fl (us') (lg') (se') we (wh') (th') (nx') md (wr'))) A) args s 0 0 A) (F0 m 173 ls []) := by
    intro rc hrec0 hrec1
    intro H locs ls us lg se wh th nx wr v1 v2 v3 v5 hP hD hS hl hF
    have hF : (if v3 < 0 ∨ 16 ≤ v3.toNatClampNeg then none else if v5 < 0 ∨ 8 ≤ v5.toNatClampNeg then none else f_R_mount_J190 rc rm fl (upd us v3.toNatClampNeg (1 : Int32)) lg se (upd wh v5.toNatClampNeg (v3 + (1 : Int32))) th nx wr v1 v2 v3) = some (r, us', lg', se', wh', th', nx', wr') := hF
    refine lv_aload_n hx hb d_R_mount_173 rfl (lv_at hl 0 rfl) ?_
    refine va_get (D := (dC, dI)) (ci := 2) (v := .ref q3) (C := "FlashStoreModel") (T := TR) (N := 11) hx hb hts inTR hown hK hP 0 rfl rfl 3 (by decide) w3 (fun _ h9 => h9) rfl d_R_mount_174 ?_
    refine lv_iload_n hx hb d_R_mount_177 rfl (lv_at hl 3 rfl) ?_
    refine lv_iconst (v := (1 : Int32)) hx hb d_R_mount_178 (by decide) ?_
    obtain ⟨hi179, hF⟩ := tx_g hF
    refine va_iast hx hb hK hP hD hS 3 0 rfl rfl hi179 d_R_mount_179 (fun H locs hP hD hS => ?_)
    have hP : va_P (dC, dI) vwCl (wR cA h0 q1 q2 q3 q4 q5 q6 q7 rm fl (upd us v3.toNatClampNeg (1 : Int32)) lg se we wh th nx md wr) H := hP
    have hD : va_D A (wR cA h0 q1 q2 q3 q4 q5 q6 q7 rm fl (upd us v3.toNatClampNeg (1 : Int32)) lg se we wh th nx md wr) := hD
    refine lv_aload_n hx hb d_R_mount_180 rfl (lv_at hl 0 rfl) ?_
    refine va_get (D := (dC, dI)) (ci := 2) (v := .ref q7) (C := "FlashStoreModel") (T := TR) (N := 11) hx hb hts inTR hown hK hP 0 rfl rfl 7 (by decide) w1 (fun _ h9 => h9) rfl d_R_mount_181 ?_
    refine lv_iload hx hb d_R_mount_184 (lv_at hl 4 rfl) ?_
    refine lv_iload_n hx hb d_R_mount_186 rfl (lv_at hl 3 rfl) ?_
    refine lv_iconst (v := (1 : Int32)) hx hb d_R_mount_187 (by decide) ?_
    refine lv_iadd hx hb d_R_mount_188 ?_
    obtain ⟨hi189, hF⟩ := tx_g hF
    refine va_iast hx hb hK hP hD hS 7 0 rfl rfl hi189 d_R_mount_189 (fun H locs hP hD hS => ?_)
    have hP : va_P (dC, dI) vwCl (wR cA h0 q1 q2 q3 q4 q5 q6 q7 rm fl (upd us v3.toNatClampNeg (1 : Int32)) lg se we (upd wh v5.toNatClampNeg (v3 + (1 : Int32))) th nx md wr) H := hP
    have hD : va_D A (wR cA h0 q1 q2 q3 q4 q5 q6 q7 rm fl (upd us v3.toNatClampNeg (1 : Int32)) lg se we (upd wh v5.toNatClampNeg (v3 + (1 : Int32))) th nx md wr) := hD
    exact J190 _ hrec0 hrec1 _ _ _ (upd us v3.toNatClampNeg (1 : Int32)) lg se (upd wh v5.toNatClampNeg (v3 + (1 : Int32))) th nx wr v1 v2 v3 hP hD hS (lv_sub hl [0, 1, 2, 3] rfl) hF
  have J159 : ∀ (rc : (Nat → Int32) → (Nat → Int32) → (Nat → Int32) → (Nat → Int32) → (Nat → Int32) → (Nat → Int32) → Int32 → Int32 → Int32 → Nat → Int32 → Int32 → Int32 → Option (Int32 × (Nat → Int32) × (Nat → Int32) × (Nat → Int32) × (Nat → Int32) × Int32 × Int32 × Int32)) (hrec0 : ∀ (H : Heap) (locs : List Loc) (ls : Array Slot) (us : Nat → Int32) (lg : Nat → Int32) (se : Nat → Int32) (wh : Nat → Int32) (th : Int32) (nx : Int32) (wr : Int32) (v1 : Int32), va_P (dC, dI) vwCl (wR cA h0 q1 q2 q3 q4 q5 q6 q7 rm fl us lg se we wh th nx md wr) H → va_D A (wR cA h0 q1 q2 q3 q4 q5 q6 q7 rm fl us lg se we wh th nx md wr) → va_S A s.heap H locs → lv_has ls 7 [(0, .ref h0), (1, .int v1)] → rc rm fl us lg se wh th nx wr 0 v1 0 0 = some (r, us', lg', se', wh', th', nx', wr') → W p l e (headSpec ws_R_mount rm_R_mount).room s m args below meth c H locs 0 0 (MQ below (va_Qi (S := Unit) (fun z _ => r = z) (fun _ t => va_P (dC, dI) vwCl (wR cA h0 q1 q2 q3 q4 q5 q6 q7 rm fl (us') (lg') (se') we (wh') (th') (nx') md (wr')) t.heap ∧ va_D A (wR cA h0 q1 q2 q3 q4 q5 q6 q7 rm fl (us') (lg') (se') we (wh') (th') (nx') md (wr'))) A) args s 0 0 A) (F0 m 7 ls [])) (hrec1 : ∀ (H : Heap) (locs : List Loc) (ls : Array Slot) (us : Nat → Int32) (lg : Nat → Int32) (se : Nat → Int32) (wh : Nat → Int32) (th : Int32) (nx : Int32) (wr : Int32) (v1 : Int32) (v2 : Int32) (v3 : Int32), va_P (dC, dI) vwCl (wR cA h0 q1 q2 q3 q4 q5 q6 q7 rm fl us lg se we wh th nx md wr) H → va_D A (wR cA h0 q1 q2 q3 q4 q5 q6 q7 rm fl us lg se we wh th nx md wr) → va_S A s.heap H locs → lv_has ls 7 [(0, .ref h0), (1, .int v1), (2, .int v2), (3, .int v3)] → rc rm fl us lg se wh th nx wr 1 v1 v2 v3 = some (r, us', lg', se', wh', th', nx', wr') → W p l e (headSpec ws_R_mount rm_R_mount).room s m args below meth c H locs 0 0 (MQ below (va_Qi (S := Unit) (fun z _ => r = z) (fun _ t => va_P (dC, dI) vwCl (wR cA h0 q1 q2 q3 q4 q5 q6 q7 rm fl (us') (lg') (se') we (wh') (th') (nx') md (wr')) t.heap ∧ va_D A (wR cA h0 q1 q2 q3 q4 q5 q6 q7 rm fl (us') (lg') (se') we (wh') (th') (nx') md (wr'))) A) args s 0 0 A) (F0 m 32 ls [])), ∀ (H : Heap) (locs : List Loc) (ls : Array Slot) (us : Nat → Int32) (lg : Nat → Int32) (se : Nat → Int32) (wh : Nat → Int32) (th : Int32) (nx : Int32) (wr : Int32) (v1 : Int32) (v3 : Int32) (v5 : Int32) (v6 : Int32) (z0 : Int32), va_P (dC, dI) vwCl (wR cA h0 q1 q2 q3 q4 q5 q6 q7 rm fl us lg se we wh th nx md wr) H → va_D A (wR cA h0 q1 q2 q3 q4 q5 q6 q7 rm fl us lg se we wh th nx md wr) → va_S A s.heap H locs → lv_has ls 7 [(0, .ref h0), (1, .int v1), (3, .int v3), (5, .int v5), (6, .int v6)] → f_R_mount_J159 rc rm fl us lg se wh th nx wr v1 v3 v5 v6 z0 = some (r, us', lg', se', wh', th', nx', wr') → W p l e (headSpec ws_R_mount rm_R_mount).room s m args below meth c H locs 0 0 (MQ below (va_Qi (S := Unit) (fun z _ => r = z) (fun _ t => va_P (dC, dI) vwCl (wR cA h0 q1 q2 q3 q4 q5 q6 q7 rm fl (us') (lg') (se') we (wh') (th') (nx') md (wr')) t.heap ∧ va_D A (wR cA h0 q1 q2 q3 q4 q5 q6 q7 rm fl (us') (lg') (se') we (wh') (th') (nx') md (wr'))) A) args s 0 0 A) (F0 m 159 ls [.int z0]) := by
    intro rc hrec0 hrec1
    intro H locs ls us lg se wh th nx wr v1 v3 v5 v6 z0 hP hD hS hl hF
    have hF : (if v6 < 0 then (f_R_mount_J173 rc rm fl us lg se wh th nx wr v1 z0 v3 v5) else (if v6 < 0 ∨ 16 ≤ v6.toNatClampNeg then none else f_R_mount_J173 rc rm fl (upd us v6.toNatClampNeg (2 : Int32)) lg se wh th nx wr v1 z0 v3 v5)) = some (r, us', lg', se', wh', th', nx', wr') := hF
    refine lv_istore_n hx hb d_R_mount_159 rfl hl (by decide) rfl (fun ls hl => ?_)
    have hl : lv_has ls 7 [(2, .int z0), (0, .ref h0), (1, .int v1), (3, .int v3), (5, .int v5), (6, .int v6)] := hl
    refine lv_iload hx hb d_R_mount_160 (lv_at hl 5 rfl) ?_
    refine lv_if_lt hx hb d_R_mount_162 (tgt := 173) (by decide) (fun h162 => ?_) (fun h162 => ?_)
    · have hF := tx_t h162 hF
      exact J173 _ hrec0 hrec1 _ _ _ us lg se wh th nx wr v1 z0 v3 v5 hP hD hS (lv_sub hl [1, 2, 0, 3, 4] rfl) hF
    · have hF := tx_f h162 hF
      refine lv_aload_n hx hb d_R_mount_165 rfl (lv_at hl 1 rfl) ?_
      refine va_get (D := (dC, dI)) (ci := 2) (v := .ref q3) (C := "FlashStoreModel") (T := TR) (N := 11) hx hb hts inTR hown hK hP 0 rfl rfl 3 (by decide) w3 (fun _ h9 => h9) rfl d_R_mount_166 ?_
      refine lv_iload hx hb d_R_mount_169 (lv_at hl 5 rfl) ?_
      refine lv_iconst (v := (2 : Int32)) hx hb d_R_mount_171 (by decide) ?_
      obtain ⟨hi172, hF⟩ := tx_g hF
      refine va_iast hx hb hK hP hD hS 3 0 rfl rfl hi172 d_R_mount_172 (fun H locs hP hD hS => ?_)
      have hP : va_P (dC, dI) vwCl (wR cA h0 q1 q2 q3 q4 q5 q6 q7 rm fl (upd us v6.toNatClampNeg (2 : Int32)) lg se we wh th nx md wr) H := hP
      have hD : va_D A (wR cA h0 q1 q2 q3 q4 q5 q6 q7 rm fl (upd us v6.toNatClampNeg (2 : Int32)) lg se we wh th nx md wr) := hD
      exact J173 _ hrec0 hrec1 _ _ _ (upd us v6.toNatClampNeg (2 : Int32)) lg se wh th nx wr v1 z0 v3 v5 hP hD hS (lv_sub hl [1, 2, 0, 3, 4] rfl) hF
  have J147 : ∀ (rc : (Nat → Int32) → (Nat → Int32) → (Nat → Int32) → (Nat → Int32) → (Nat → Int32) → (Nat → Int32) → Int32 → Int32 → Int32 → Nat → Int32 → Int32 → Int32 → Option (Int32 × (Nat → Int32) × (Nat → Int32) × (Nat → Int32) × (Nat → Int32) × Int32 × Int32 × Int32)) (hrec0 : ∀ (H : Heap) (locs : List Loc) (ls : Array Slot) (us : Nat → Int32) (lg : Nat → Int32) (se : Nat → Int32) (wh : Nat → Int32) (th : Int32) (nx : Int32) (wr : Int32) (v1 : Int32), va_P (dC, dI) vwCl (wR cA h0 q1 q2 q3 q4 q5 q6 q7 rm fl us lg se we wh th nx md wr) H → va_D A (wR cA h0 q1 q2 q3 q4 q5 q6 q7 rm fl us lg se we wh th nx md wr) → va_S A s.heap H locs → lv_has ls 7 [(0, .ref h0), (1, .int v1)] → rc rm fl us lg se wh th nx wr 0 v1 0 0 = some (r, us', lg', se', wh', th', nx', wr') → W p l e (headSpec ws_R_mount rm_R_mount).room s m args below meth c H locs 0 0 (MQ below (va_Qi (S := Unit) (fun z _ => r = z) (fun _ t => va_P (dC, dI) vwCl (wR cA h0 q1 q2 q3 q4 q5 q6 q7 rm fl (us') (lg') (se') we (wh') (th') (nx') md (wr')) t.heap ∧ va_D A (wR cA h0 q1 q2 q3 q4 q5 q6 q7 rm fl (us') (lg') (se') we (wh') (th') (nx') md (wr'))) A) args s 0 0 A) (F0 m 7 ls [])) (hrec1 : ∀ (H : Heap) (locs : List Loc) (ls : Array Slot) (us : Nat → Int32) (lg : Nat → Int32) (se : Nat → Int32) (wh : Nat → Int32) (th : Int32) (nx : Int32) (wr : Int32) (v1 : Int32) (v2 : Int32) (v3 : Int32), va_P (dC, dI) vwCl (wR cA h0 q1 q2 q3 q4 q5 q6 q7 rm fl us lg se we wh th nx md wr) H → va_D A (wR cA h0 q1 q2 q3 q4 q5 q6 q7 rm fl us lg se we wh th nx md wr) → va_S A s.heap H locs → lv_has ls 7 [(0, .ref h0), (1, .int v1), (2, .int v2), (3, .int v3)] → rc rm fl us lg se wh th nx wr 1 v1 v2 v3 = some (r, us', lg', se', wh', th', nx', wr') → W p l e (headSpec ws_R_mount rm_R_mount).room s m args below meth c H locs 0 0 (MQ below (va_Qi (S := Unit) (fun z _ => r = z) (fun _ t => va_P (dC, dI) vwCl (wR cA h0 q1 q2 q3 q4 q5 q6 q7 rm fl (us') (lg') (se') we (wh') (th') (nx') md (wr')) t.heap ∧ va_D A (wR cA h0 q1 q2 q3 q4 q5 q6 q7 rm fl (us') (lg') (se') we (wh') (th') (nx') md (wr'))) A) args s 0 0 A) (F0 m 32 ls [])), ∀ (H : Heap) (locs : List Loc) (ls : Array Slot) (us : Nat → Int32) (lg : Nat → Int32) (se : Nat → Int32) (wh : Nat → Int32) (th : Int32) (nx : Int32) (wr : Int32) (v1 : Int32) (v2 : Int32) (v3 : Int32) (v5 : Int32) (v6 : Int32), va_P (dC, dI) vwCl (wR cA h0 q1 q2 q3 q4 q5 q6 q7 rm fl us lg se we wh th nx md wr) H → va_D A (wR cA h0 q1 q2 q3 q4 q5 q6 q7 rm fl us lg se we wh th nx md wr) → va_S A s.heap H locs → lv_has ls 7 [(0, .ref h0), (1, .int v1), (2, .int v2), (3, .int v3), (5, .int v5), (6, .int v6)] → f_R_mount_J147 rc rm fl us lg se wh th nx wr v1 v2 v3 v5 v6 = some (r, us', lg', se', wh', th', nx', wr') → W p l e (headSpec ws_R_mount rm_R_mount).room s m args below meth c H locs 0 0 (MQ below (va_Qi (S := Unit) (fun z _ => r = z) (fun _ t => va_P (dC, dI) vwCl (wR cA h0 q1 q2 q3 q4 q5 q6 q7 rm fl (us') (lg') (se') we (wh') (th') (nx') md (wr')) t.heap ∧ va_D A (wR cA h0 q1 q2 q3 q4 q5 q6 q7 rm fl (us') (lg') (se') we (wh') (th') (nx') md (wr'))) A) args s 0 0 A) (F0 m 147 ls []) := by
    intro rc hrec0 hrec1
    intro H locs ls us lg se wh th nx wr v1 v2 v3 v5 v6 hP hD hS hl hF
    have hF : (if 0 ≤ v6 then (f_R_mount_J159 rc rm fl us lg se wh th nx wr v1 v3 v5 v6 v2) else (f_R_mount_J159 rc rm fl us lg se wh th nx wr v1 v3 v5 v6 (v2 + (1 : Int32)))) = some (r, us', lg', se', wh', th', nx', wr') := hF
    refine lv_iload hx hb d_R_mount_147 (lv_at hl 5 rfl) ?_
    refine lv_if_ge hx hb d_R_mount_149 (tgt := 158) (by decide) (fun h149 => ?_) (fun h149 => ?_)
    · have hF := tx_t h149 hF
      refine lv_iload_n hx hb d_R_mount_158 rfl (lv_at hl 2 rfl) ?_
      exact J159 _ hrec0 hrec1 _ _ _ us lg se wh th nx wr v1 v3 v5 v6 v2 hP hD hS (lv_sub hl [0, 1, 3, 4, 5] rfl) hF
    · have hF := tx_f h149 hF
      refine lv_iload_n hx hb d_R_mount_152 rfl (lv_at hl 2 rfl) ?_
      refine lv_iconst (v := (1 : Int32)) hx hb d_R_mount_153 (by decide) ?_
      refine lv_iadd hx hb d_R_mount_154 ?_
      refine lv_goto hx hb d_R_mount_155 (tgt := 159) (by decide) ?_
      exact J159 _ hrec0 hrec1 _ _ _ us lg se wh th nx wr v1 v3 v5 v6 (v2 + (1 : Int32)) hP hD hS (lv_sub hl [0, 1, 3, 4, 5] rfl) hF
  have J71 : ∀ (rc : (Nat → Int32) → (Nat → Int32) → (Nat → Int32) → (Nat → Int32) → (Nat → Int32) → (Nat → Int32) → Int32 → Int32 → Int32 → Nat → Int32 → Int32 → Int32 → Option (Int32 × (Nat → Int32) × (Nat → Int32) × (Nat → Int32) × (Nat → Int32) × Int32 × Int32 × Int32)) (hrec0 : ∀ (H : Heap) (locs : List Loc) (ls : Array Slot) (us : Nat → Int32) (lg : Nat → Int32) (se : Nat → Int32) (wh : Nat → Int32) (th : Int32) (nx : Int32) (wr : Int32) (v1 : Int32), va_P (dC, dI) vwCl (wR cA h0 q1 q2 q3 q4 q5 q6 q7 rm fl us lg se we wh th nx md wr) H → va_D A (wR cA h0 q1 q2 q3 q4 q5 q6 q7 rm fl us lg se we wh th nx md wr) → va_S A s.heap H locs → lv_has ls 7 [(0, .ref h0), (1, .int v1)] → rc rm fl us lg se wh th nx wr 0 v1 0 0 = some (r, us', lg', se', wh', th', nx', wr') → W p l e (headSpec ws_R_mount rm_R_mount).room s m args below meth c H locs 0 0 (MQ below (va_Qi (S := Unit) (fun z _ => r = z) (fun _ t => va_P (dC, dI) vwCl (wR cA h0 q1 q2 q3 q4 q5 q6 q7 rm fl (us') (lg') (se') we (wh') (th') (nx') md (wr')) t.heap ∧ va_D A (wR cA h0 q1 q2 q3 q4 q5 q6 q7 rm fl (us') (lg') (se') we (wh') (th') (nx') md (wr'))) A) args s 0 0 A) (F0 m 7 ls [])) (hrec1 : ∀ (H : Heap) (locs : List Loc) (ls : Array Slot) (us : Nat → Int32) (lg : Nat → Int32) (se : Nat → Int32) (wh : Nat → Int32) (th : Int32) (nx : Int32) (wr : Int32) (v1 : Int32) (v2 : Int32) (v3 : Int32), va_P (dC, dI) vwCl (wR cA h0 q1 q2 q3 q4 q5 q6 q7 rm fl us lg se we wh th nx md wr) H → va_D A (wR cA h0 q1 q2 q3 q4 q5 q6 q7 rm fl us lg se we wh th nx md wr) → va_S A s.heap H locs → lv_has ls 7 [(0, .ref h0), (1, .int v1), (2, .int v2), (3, .int v3)] → rc rm fl us lg se wh th nx wr 1 v1 v2 v3 = some (r, us', lg', se', wh', th', nx', wr') → W p l e (headSpec ws_R_mount rm_R_mount).room s m args below meth c H locs 0 0 (MQ below (va_Qi (S := Unit) (fun z _ => r = z) (fun _ t => va_P (dC, dI) vwCl (wR cA h0 q1 q2 q3 q4 q5 q6 q7 rm fl (us') (lg') (se') we (wh') (th') (nx') md (wr')) t.heap ∧ va_D A (wR cA h0 q1 q2 q3 q4 q5 q6 q7 rm fl (us') (lg') (se') we (wh') (th') (nx') md (wr'))) A) args s 0 0 A) (F0 m 32 ls [])), ∀ (H : Heap) (locs : List Loc) (ls : Array Slot) (us : Nat → Int32) (lg : Nat → Int32) (se : Nat → Int32) (wh : Nat → Int32) (th : Int32) (nx : Int32) (wr : Int32) (v1 : Int32) (v2 : Int32) (v3 : Int32) (v4 : Int32) (z0 : Int32) (z1 : Int32), va_P (dC, dI) vwCl (wR cA h0 q1 q2 q3 q4 q5 q6 q7 rm fl us lg se we wh th nx md wr) H → va_D A (wR cA h0 q1 q2 q3 q4 q5 q6 q7 rm fl us lg se we wh th nx md wr) → va_S A s.heap H locs → lv_has ls 7 [(0, .ref h0), (1, .int v1), (2, .int v2), (3, .int v3), (4, .int v4)] → f_R_mount_J71 rc rm fl us lg se wh th nx wr v1 v2 v3 v4 z0 z1 = some (r, us', lg', se', wh', th', nx', wr') → W p l e (headSpec ws_R_mount rm_R_mount).room s m args below meth c H locs 0 0 (MQ below (va_Qi (S := Unit) (fun z _ => r = z) (fun _ t => va_P (dC, dI) vwCl (wR cA h0 q1 q2 q3 q4 q5 q6 q7 rm fl (us') (lg') (se') we (wh') (th') (nx') md (wr')) t.heap ∧ va_D A (wR cA h0 q1 q2 q3 q4 q5 q6 q7 rm fl (us') (lg') (se') we (wh') (th') (nx') md (wr'))) A) args s 0 0 A) (F0 m 71 ls [.int z0, .int z1, .ref q3]) := by
    intro rc hrec0 hrec1
    intro H locs ls us lg se wh th nx wr v1 v2 v3 v4 z0 z1 hP hD hS hl hF
    have hF : (if z1 < 0 ∨ 16 ≤ z1.toNatClampNeg then none else if v4 < 0 then (f_R_mount_J214 rc rm fl (upd us z1.toNatClampNeg z0) lg se wh th nx wr v1 v2 v3) else (if (32768 : Int32) ≤ v4 then (f_R_mount_J214 rc rm fl (upd us z1.toNatClampNeg z0) lg se wh th nx wr v1 v2 v3) else (if v3 < 0 ∨ 16 ≤ v3.toNatClampNeg then none else if (v4 / (4096 : Int32)) < 0 ∨ 8 ≤ (v4 / (4096 : Int32)).toNatClampNeg then none else if ((wh (v4 / (4096 : Int32)).toNatClampNeg) - (1 : Int32)) < 0 then (f_R_mount_J147 rc rm fl (upd us z1.toNatClampNeg z0) (upd lg v3.toNatClampNeg (v4 / (4096 : Int32))) (upd se v3.toNatClampNeg (v4 - v4 / (4096 : Int32) * (4096 : Int32))) wh th nx wr v1 v2 v3 (v4 / (4096 : Int32)) ((wh (v4 / (4096 : Int32)).toNatClampNeg) - (1 : Int32))) else (if ((wh (v4 / (4096 : Int32)).toNatClampNeg) - (1 : Int32)) < 0 ∨ 16 ≤ ((wh (v4 / (4096 : Int32)).toNatClampNeg) - (1 : Int32)).toNatClampNeg then none else (f_R_newer ((upd se v3.toNatClampNeg (v4 - v4 / (4096 : Int32) * (4096 : Int32))) v3.toNatClampNeg) ((upd se v3.toNatClampNeg (v4 - v4 / (4096 : Int32) * (4096 : Int32))) ((wh (v4 / (4096 : Int32)).toNatClampNeg) - (1 : Int32)).toNatClampNeg)).bind fun r141 => if r141 = 0 then (f_R_mount_J190 rc rm fl (upd us z1.toNatClampNeg z0) (upd lg v3.toNatClampNeg (v4 / (4096 : Int32))) (upd se v3.toNatClampNeg (v4 - v4 / (4096 : Int32) * (4096 : Int32))) wh th nx wr v1 v2 v3) else (f_R_mount_J147 rc rm fl (upd us z1.toNatClampNeg z0) (upd lg v3.toNatClampNeg (v4 / (4096 : Int32))) (upd se v3.toNatClampNeg (v4 - v4 / (4096 : Int32) * (4096 : Int32))) wh th nx wr v1 v2 v3 (v4 / (4096 : Int32)) ((wh (v4 / (4096 : Int32)).toNatClampNeg) - (1 : Int32))))))) = some (r, us', lg', se', wh', th', nx', wr') := hF
    obtain ⟨hi71, hF⟩ := tx_g hF
    refine va_iast hx hb hK hP hD hS 3 0 rfl rfl hi71 d_R_mount_71 (fun H locs hP hD hS => ?_)
    have hP : va_P (dC, dI) vwCl (wR cA h0 q1 q2 q3 q4 q5 q6 q7 rm fl (upd us z1.toNatClampNeg z0) lg se we wh th nx md wr) H := hP
    have hD : va_D A (wR cA h0 q1 q2 q3 q4 q5 q6 q7 rm fl (upd us z1.toNatClampNeg z0) lg se we wh th nx md wr) := hD
    refine lv_iload hx hb d_R_mount_72 (lv_at hl 4 rfl) ?_
    refine lv_if_lt hx hb d_R_mount_74 (tgt := 214) (by decide) (fun h74 => ?_) (fun h74 => ?_)
    · have hF := tx_t h74 hF
      exact J214 _ hrec0 hrec1 _ _ _ (upd us z1.toNatClampNeg z0) lg se wh th nx wr v1 v2 v3 hP hD hS (lv_sub hl [0, 1, 2, 3] rfl) hF
    · have hF := tx_f h74 hF
      refine lv_iload hx hb d_R_mount_77 (lv_at hl 4 rfl) ?_
      refine lv_ldc hx hb hown w6 d_R_mount_79 ?_
      refine lv_icmp_ge hx hb d_R_mount_81 (tgt := 214) (by decide) (fun h81 => ?_) (fun h81 => ?_)
      · have hF := tx_t h81 hF
        exact J214 _ hrec0 hrec1 _ _ _ (upd us z1.toNatClampNeg z0) lg se wh th nx wr v1 v2 v3 hP hD hS (lv_sub hl [0, 1, 2, 3] rfl) hF
      · have hF := tx_f h81 hF
        refine lv_iload hx hb d_R_mount_84 (lv_at hl 4 rfl) ?_
        refine lv_sipush (v := (4096 : Int32)) hx hb d_R_mount_86 (by decide) ?_
        refine lv_idiv hx hb d_R_mount_89 (by decide) ?_
        refine lv_istore hx hb d_R_mount_90 hl (by decide) rfl (fun ls hl => ?_)
        have hl : lv_has ls 7 [(5, .int (v4 / (4096 : Int32))), (0, .ref h0), (1, .int v1), (2, .int v2), (3, .int v3), (4, .int v4)] := hl
        refine lv_aload_n hx hb d_R_mount_92 rfl (lv_at hl 1 rfl) ?_
        refine va_get (D := (dC, dI)) (ci := 2) (v := .ref q4) (C := "FlashStoreModel") (T := TR) (N := 11) hx hb hts inTR hown hK hP 0 rfl rfl 4 (by decide) w7 (fun _ h9 => h9) rfl d_R_mount_93 ?_
        refine lv_iload_n hx hb d_R_mount_96 rfl (lv_at hl 4 rfl) ?_
        refine lv_iload hx hb d_R_mount_97 (lv_at hl 0 rfl) ?_
        obtain ⟨hi99, hF⟩ := tx_g hF
        refine va_iast hx hb hK hP hD hS 4 0 rfl rfl hi99 d_R_mount_99 (fun H locs hP hD hS => ?_)
        have hP : va_P (dC, dI) vwCl (wR cA h0 q1 q2 q3 q4 q5 q6 q7 rm fl (upd us z1.toNatClampNeg z0) (upd lg v3.toNatClampNeg (v4 / (4096 : Int32))) se we wh th nx md wr) H := hP
        have hD : va_D A (wR cA h0 q1 q2 q3 q4 q5 q6 q7 rm fl (upd us z1.toNatClampNeg z0) (upd lg v3.toNatClampNeg (v4 / (4096 : Int32))) se we wh th nx md wr) := hD
        refine lv_aload_n hx hb d_R_mount_100 rfl (lv_at hl 1 rfl) ?_
        refine va_get (D := (dC, dI)) (ci := 2) (v := .ref q5) (C := "FlashStoreModel") (T := TR) (N := 11) hx hb hts inTR hown hK hP 0 rfl rfl 5 (by decide) w8 (fun _ h9 => h9) rfl d_R_mount_101 ?_
        refine lv_iload_n hx hb d_R_mount_104 rfl (lv_at hl 4 rfl) ?_
        refine lv_iload hx hb d_R_mount_105 (lv_at hl 5 rfl) ?_
        refine lv_sipush (v := (4096 : Int32)) hx hb d_R_mount_107 (by decide) ?_
        refine lv_irem hx hb d_R_mount_110 (by decide) ?_
        refine va_iast hx hb hK hP hD hS 5 0 rfl rfl hi99 d_R_mount_111 (fun H locs hP hD hS => ?_)
        have hP : va_P (dC, dI) vwCl (wR cA h0 q1 q2 q3 q4 q5 q6 q7 rm fl (upd us z1.toNatClampNeg z0) (upd lg v3.toNatClampNeg (v4 / (4096 : Int32))) (upd se v3.toNatClampNeg (v4 - v4 / (4096 : Int32) * (4096 : Int32))) we wh th nx md wr) H := hP
        have hD : va_D A (wR cA h0 q1 q2 q3 q4 q5 q6 q7 rm fl (upd us z1.toNatClampNeg z0) (upd lg v3.toNatClampNeg (v4 / (4096 : Int32))) (upd se v3.toNatClampNeg (v4 - v4 / (4096 : Int32) * (4096 : Int32))) we wh th nx md wr) := hD
        refine lv_aload_n hx hb d_R_mount_112 rfl (lv_at hl 1 rfl) ?_
        refine va_get (D := (dC, dI)) (ci := 2) (v := .ref q7) (C := "FlashStoreModel") (T := TR) (N := 11) hx hb hts inTR hown hK hP 0 rfl rfl 7 (by decide) w1 (fun _ h9 => h9) rfl d_R_mount_113 ?_
        refine lv_iload hx hb d_R_mount_116 (lv_at hl 0 rfl) ?_
        obtain ⟨hi118, hF⟩ := tx_g hF
        refine va_iald hx hb hK hP 7 0 rfl rfl hi118 d_R_mount_118 ?_
        refine lv_iconst (v := (1 : Int32)) hx hb d_R_mount_119 (by decide) ?_
        refine lv_isub hx hb d_R_mount_120 ?_
        refine lv_istore hx hb d_R_mount_121 hl (by decide) rfl (fun ls hl => ?_)
        have hl : lv_has ls 7 [(6, .int ((wh (v4 / (4096 : Int32)).toNatClampNeg) - (1 : Int32))), (5, .int (v4 / (4096 : Int32))), (0, .ref h0), (1, .int v1), (2, .int v2), (3, .int v3), (4, .int v4)] := hl
        refine lv_iload hx hb d_R_mount_123 (lv_at hl 0 rfl) ?_
        refine lv_if_lt hx hb d_R_mount_125 (tgt := 147) (by decide) (fun h125 => ?_) (fun h125 => ?_)
        · have hF := tx_t h125 hF
          exact J147 _ hrec0 hrec1 _ _ _ (upd us z1.toNatClampNeg z0) (upd lg v3.toNatClampNeg (v4 / (4096 : Int32))) (upd se v3.toNatClampNeg (v4 - v4 / (4096 : Int32) * (4096 : Int32))) wh th nx wr v1 v2 v3 (v4 / (4096 : Int32)) ((wh (v4 / (4096 : Int32)).toNatClampNeg) - (1 : Int32)) hP hD hS (lv_sub hl [2, 3, 4, 5, 1, 0] rfl) hF
        · have hF := tx_f h125 hF
          refine lv_aload_n hx hb d_R_mount_128 rfl (lv_at hl 2 rfl) ?_
          refine va_get (D := (dC, dI)) (ci := 2) (v := .ref q5) (C := "FlashStoreModel") (T := TR) (N := 11) hx hb hts inTR hown hK hP 0 rfl rfl 5 (by decide) w8 (fun _ h9 => h9) rfl d_R_mount_129 ?_
          refine lv_iload_n hx hb d_R_mount_132 rfl (lv_at hl 5 rfl) ?_
          refine va_iald hx hb hK hP 5 0 rfl rfl hi99 d_R_mount_133 ?_
          refine lv_aload_n hx hb d_R_mount_134 rfl (lv_at hl 2 rfl) ?_
          refine va_get (D := (dC, dI)) (ci := 2) (v := .ref q5) (C := "FlashStoreModel") (T := TR) (N := 11) hx hb hts inTR hown hK hP 0 rfl rfl 5 (by decide) w8 (fun _ h9 => h9) rfl d_R_mount_135 ?_
          refine lv_iload hx hb d_R_mount_138 (lv_at hl 0 rfl) ?_
          obtain ⟨hi140, hF⟩ := tx_g hF
          refine va_iald hx hb hK hP 5 0 rfl rfl hi140 d_R_mount_140 ?_
          obtain ⟨r141, hc141, hF⟩ := tx_b hF
          refine vp_callSi (W.runS (As := [.int ((upd se v3.toNatClampNeg (v4 - v4 / (4096 : Int32) * (4096 : Int32))) v3.toNatClampNeg), .int ((upd se v3.toNatClampNeg (v4 - v4 / (4096 : Int32) * (4096 : Int32))) ((wh (v4 / (4096 : Int32)).toNatClampNeg) - (1 : Int32)).toNatClampNeg)]) (rest := []) ⟨hx, hb, hml, hown, hts⟩ (c_R_newer l ((upd se v3.toNatClampNeg (v4 - v4 / (4096 : Int32) * (4096 : Int32))) v3.toNatClampNeg) ((upd se v3.toNatClampNeg (v4 - v4 / (4096 : Int32) * (4096 : Int32))) ((wh (v4 / (4096 : Int32)).toNatClampNeg) - (1 : Int32)).toNatClampNeg) r141 hc141) (va_cwS 2 hts (tg_S bq_3_85 bq_3_86 bq_1_4 bq_3_87) rfl rfl rfl (by decide +kernel) ⟨Nat.le_of_ble_eq_true rfl, Nat.le_of_ble_eq_true rfl⟩) ⟨tx_bl0, tx_pre0⟩ rfl rfl hl.1 rfl (lv_room (Nat.le_of_ble_eq_true rfl)) d_R_mount_141 ⟨Nat.zero_le _, Nat.zero_le _⟩) (fun zz hz => ?_)
          subst hz
          refine lv_if_eq hx hb d_R_mount_144 (tgt := 190) (by decide) (fun h144 => ?_) (fun h144 => ?_)
          · have hF := tx_t h144 hF
            exact J190 _ hrec0 hrec1 _ _ _ (upd us z1.toNatClampNeg z0) (upd lg v3.toNatClampNeg (v4 / (4096 : Int32))) (upd se v3.toNatClampNeg (v4 - v4 / (4096 : Int32) * (4096 : Int32))) wh th nx wr v1 v2 v3 hP hD hS (lv_sub hl [2, 3, 4, 5] rfl) hF
          · have hF := tx_f h144 hF
            exact J147 _ hrec0 hrec1 _ _ _ (upd us z1.toNatClampNeg z0) (upd lg v3.toNatClampNeg (v4 / (4096 : Int32))) (upd se v3.toNatClampNeg (v4 - v4 / (4096 : Int32) * (4096 : Int32))) wh th nx wr v1 v2 v3 (v4 / (4096 : Int32)) ((wh (v4 / (4096 : Int32)).toNatClampNeg) - (1 : Int32)) hP hD hS (lv_sub hl [2, 3, 4, 5, 1, 0] rfl) hF
  have LH : ∀ n : Nat, (∀ (H : Heap) (locs : List Loc) (ls : Array Slot) (us : Nat → Int32) (lg : Nat → Int32) (se : Nat → Int32) (wh : Nat → Int32) (th : Int32) (nx : Int32) (wr : Int32) (v1 : Int32), va_P (dC, dI) vwCl (wR cA h0 q1 q2 q3 q4 q5 q6 q7 rm fl us lg se we wh th nx md wr) H → va_D A (wR cA h0 q1 q2 q3 q4 q5 q6 q7 rm fl us lg se we wh th nx md wr) → va_S A s.heap H locs → lv_has ls 7 [(0, .ref h0), (1, .int v1)] → f_R_mount_H n rm fl us lg se wh th nx wr 0 v1 0 0 = some (r, us', lg', se', wh', th', nx', wr') → W p l e (headSpec ws_R_mount rm_R_mount).room s m args below meth c H locs 0 0 (MQ below (va_Qi (S := Unit) (fun z _ => r = z) (fun _ t => va_P (dC, dI) vwCl (wR cA h0 q1 q2 q3 q4 q5 q6 q7 rm fl (us') (lg') (se') we (wh') (th') (nx') md (wr')) t.heap ∧ va_D A (wR cA h0 q1 q2 q3 q4 q5 q6 q7 rm fl (us') (lg') (se') we (wh') (th') (nx') md (wr'))) A) args s 0 0 A) (F0 m 7 ls [])) ∧ (∀ (H : Heap) (locs : List Loc) (ls : Array Slot) (us : Nat → Int32) (lg : Nat → Int32) (se : Nat → Int32) (wh : Nat → Int32) (th : Int32) (nx : Int32) (wr : Int32) (v1 : Int32) (v2 : Int32) (v3 : Int32), va_P (dC, dI) vwCl (wR cA h0 q1 q2 q3 q4 q5 q6 q7 rm fl us lg se we wh th nx md wr) H → va_D A (wR cA h0 q1 q2 q3 q4 q5 q6 q7 rm fl us lg se we wh th nx md wr) → va_S A s.heap H locs → lv_has ls 7 [(0, .ref h0), (1, .int v1), (2, .int v2), (3, .int v3)] → f_R_mount_H n rm fl us lg se wh th nx wr 1 v1 v2 v3 = some (r, us', lg', se', wh', th', nx', wr') → W p l e (headSpec ws_R_mount rm_R_mount).room s m args below meth c H locs 0 0 (MQ below (va_Qi (S := Unit) (fun z _ => r = z) (fun _ t => va_P (dC, dI) vwCl (wR cA h0 q1 q2 q3 q4 q5 q6 q7 rm fl (us') (lg') (se') we (wh') (th') (nx') md (wr')) t.heap ∧ va_D A (wR cA h0 q1 q2 q3 q4 q5 q6 q7 rm fl (us') (lg') (se') we (wh') (th') (nx') md (wr'))) A) args s 0 0 A) (F0 m 32 ls [])) := by
    intro n
    induction n with
    | zero =>
      exact ⟨(by intro H locs ls us lg se wh th nx wr v1 hP hD hS hl hF; have hF : (none : Option (Int32 × (Nat → Int32) × (Nat → Int32) × (Nat → Int32) × (Nat → Int32) × Int32 × Int32 × Int32)) = _ := hF; cases hF), (by intro H locs ls us lg se wh th nx wr v1 v2 v3 hP hD hS hl hF; have hF : (none : Option (Int32 × (Nat → Int32) × (Nat → Int32) × (Nat → Int32) × (Nat → Int32) × Int32 × Int32 × Int32)) = _ := hF; cases hF)⟩
    | succ n ih =>
      obtain ⟨hrec0, hrec1⟩ := ih
      refine ⟨?_, ?_⟩
      · intro H locs ls us lg se wh th nx wr v1 hP hD hS hl hF
        have hF : (if (8 : Int32) ≤ v1 then (f_R_mount_H n rm fl us lg se wh th nx wr 1 (-1 : Int32) (0 : Int32) (0 : Int32)) else (if v1 < 0 ∨ 8 ≤ v1.toNatClampNeg then none else f_R_mount_H n rm fl us lg se (upd wh v1.toNatClampNeg (0 : Int32)) th nx wr 0 (v1 + (1 : Int32)) 0 0)) = some (r, us', lg', se', wh', th', nx', wr') := hF
        refine lv_iload_n hx hb d_R_mount_7 rfl (lv_at hl 1 rfl) ?_
        refine lv_bipush (v := (8 : Int32)) hx hb d_R_mount_8 (by decide) ?_
        refine lv_icmp_ge hx hb d_R_mount_10 (tgt := 26) (by decide) (fun h10 => ?_) (fun h10 => ?_)
        · have hF := tx_t h10 hF
          refine lv_iconst (v := (-1 : Int32)) hx hb d_R_mount_26 (by decide) ?_
          refine lv_istore_n hx hb d_R_mount_27 rfl hl (by decide) rfl (fun ls hl => ?_)
          have hl : lv_has ls 7 [(1, .int (-1 : Int32)), (0, .ref h0)] := hl
          refine lv_iconst (v := (0 : Int32)) hx hb d_R_mount_28 (by decide) ?_
          refine lv_istore_n hx hb d_R_mount_29 rfl hl (by decide) rfl (fun ls hl => ?_)
          have hl : lv_has ls 7 [(2, .int (0 : Int32)), (1, .int (-1 : Int32)), (0, .ref h0)] := hl
          refine lv_iconst (v := (0 : Int32)) hx hb d_R_mount_30 (by decide) ?_
          refine lv_istore_n hx hb d_R_mount_31 rfl hl (by decide) rfl (fun ls hl => ?_)
          have hl : lv_has ls 7 [(3, .int (0 : Int32)), (2, .int (0 : Int32)), (1, .int (-1 : Int32)), (0, .ref h0)] := hl
          exact hrec1 _ _ _ us lg se wh th nx wr (-1 : Int32) (0 : Int32) (0 : Int32) hP hD hS (lv_sub hl [3, 2, 1, 0] rfl) hF
        · have hF := tx_f h10 hF
          refine lv_aload_n hx hb d_R_mount_13 rfl (lv_at hl 0 rfl) ?_
          refine va_get (D := (dC, dI)) (ci := 2) (v := .ref q7) (C := "FlashStoreModel") (T := TR) (N := 11) hx hb hts inTR hown hK hP 0 rfl rfl 7 (by decide) w1 (fun _ h9 => h9) rfl d_R_mount_14 ?_
          refine lv_iload_n hx hb d_R_mount_17 rfl (lv_at hl 1 rfl) ?_
          refine lv_iconst (v := (0 : Int32)) hx hb d_R_mount_18 (by decide) ?_
          obtain ⟨hi19, hF⟩ := tx_g hF
          refine va_iast hx hb hK hP hD hS 7 0 rfl rfl hi19 d_R_mount_19 (fun H locs hP hD hS => ?_)
          have hP : va_P (dC, dI) vwCl (wR cA h0 q1 q2 q3 q4 q5 q6 q7 rm fl us lg se we (upd wh v1.toNatClampNeg (0 : Int32)) th nx md wr) H := hP
          have hD : va_D A (wR cA h0 q1 q2 q3 q4 q5 q6 q7 rm fl us lg se we (upd wh v1.toNatClampNeg (0 : Int32)) th nx md wr) := hD
          refine lv_iinc (k := 1) (v := (v1 + (1 : Int32))) hx hb d_R_mount_20 hl rfl rfl (by decide) rfl (fun ls hl => ?_)
          have hl : lv_has ls 7 [(1, .int (v1 + (1 : Int32))), (0, .ref h0)] := hl
          refine lv_goto hx hb d_R_mount_23 (tgt := 7) (by decide) ?_
          exact hrec0 _ _ _ us lg se (upd wh v1.toNatClampNeg (0 : Int32)) th nx wr (v1 + (1 : Int32)) hP hD hS (lv_sub hl [1, 0] rfl) hF
      · intro H locs ls us lg se wh th nx wr v1 v2 v3 hP hD hS hl hF
        have hF : (if (16 : Int32) ≤ v3 then (if 0 ≤ v1 then (f_R_mount_J236 (f_R_mount_H n) rm fl us lg se wh th nx wr v2 ((v1 + (1 : Int32)) - (v1 + (1 : Int32)) / (4095 : Int32) * (4095 : Int32))) else (f_R_mount_J236 (f_R_mount_H n) rm fl us lg se wh th nx wr v2 (0 : Int32))) else (if (((5 : Int32) * v3) + (4 : Int32)) < 0 ∨ 80 ≤ (((5 : Int32) * v3) + (4 : Int32)).toNatClampNeg then none else (f_R_dataOf rm wr (fl (((5 : Int32) * v3) + (4 : Int32)).toNatClampNeg)).bind fun (r49, wr49) => if r49 = (65535 : Int32) then (f_R_mount_J71 (f_R_mount_H n) rm fl us lg se wh th nx wr49 v1 v2 v3 r49 (0 : Int32) v3) else (f_R_mount_J71 (f_R_mount_H n) rm fl us lg se wh th nx wr49 v1 v2 v3 r49 (2 : Int32) v3))) = some (r, us', lg', se', wh', th', nx', wr') := hF
        refine lv_iload_n hx hb d_R_mount_32 rfl (lv_at hl 3 rfl) ?_
        refine lv_bipush (v := (16 : Int32)) hx hb d_R_mount_33 (by decide) ?_
        refine lv_icmp_ge hx hb d_R_mount_35 (tgt := 220) (by decide) (fun h35 => ?_) (fun h35 => ?_)
        · have hF := tx_t h35 hF
          refine lv_aload_n hx hb d_R_mount_220 rfl (lv_at hl 0 rfl) ?_
          refine lv_iload_n hx hb d_R_mount_221 rfl (lv_at hl 1 rfl) ?_
          refine lv_if_ge hx hb d_R_mount_222 (tgt := 229) (by decide) (fun h222 => ?_) (fun h222 => ?_)
          · have hF := tx_t h222 hF
            refine lv_iload_n hx hb d_R_mount_229 rfl (lv_at hl 1 rfl) ?_
            refine lv_iconst (v := (1 : Int32)) hx hb d_R_mount_230 (by decide) ?_
            refine lv_iadd hx hb d_R_mount_231 ?_
            refine lv_sipush (v := (4095 : Int32)) hx hb d_R_mount_232 (by decide) ?_
            refine lv_irem hx hb d_R_mount_235 (by decide) ?_
            exact J236 _ hrec0 hrec1 _ _ _ us lg se wh th nx wr v2 ((v1 + (1 : Int32)) - (v1 + (1 : Int32)) / (4095 : Int32) * (4095 : Int32)) hP hD hS (lv_sub hl [2] rfl) hF
          · have hF := tx_f h222 hF
            refine lv_iconst (v := (0 : Int32)) hx hb d_R_mount_225 (by decide) ?_
            refine lv_goto hx hb d_R_mount_226 (tgt := 236) (by decide) ?_
            exact J236 _ hrec0 hrec1 _ _ _ us lg se wh th nx wr v2 (0 : Int32) hP hD hS (lv_sub hl [2] rfl) hF
        · have hF := tx_f h35 hF
          refine lv_aload_n hx hb d_R_mount_38 rfl (lv_at hl 0 rfl) ?_
          refine lv_aload_n hx hb d_R_mount_39 rfl (lv_at hl 0 rfl) ?_
          refine va_get (D := (dC, dI)) (ci := 2) (v := .ref q2) (C := "FlashStoreModel") (T := TR) (N := 11) hx hb hts inTR hown hK hP 0 rfl rfl 2 (by decide) w2 (fun _ h9 => h9) rfl d_R_mount_40 ?_
          refine lv_iconst (v := (5 : Int32)) hx hb d_R_mount_43 (by decide) ?_
          refine lv_iload_n hx hb d_R_mount_44 rfl (lv_at hl 3 rfl) ?_
          refine lv_imul hx hb d_R_mount_45 ?_
          refine lv_iconst (v := (4 : Int32)) hx hb d_R_mount_46 (by decide) ?_
          refine lv_iadd hx hb d_R_mount_47 ?_
          obtain ⟨hi48, hF⟩ := tx_g hF
          refine va_iald hx hb hK hP 2 0 rfl rfl hi48 d_R_mount_48 ?_
          obtain ⟨⟨r49, wr49⟩, hc49, hF⟩ := tx_b hF
          try dsimp only at hF
          have hPc := hP.sub (ws' := (wR cA h0 q1 q2 q3 q4 q5 q6 q7 rm fl us lg se we wh th nx md wr)) [0, 1, 2, 3, 4, 5, 6, 7] rfl
          have hDc := hD.sub (ws' := (wR cA h0 q1 q2 q3 q4 q5 q6 q7 rm fl us lg se we wh th nx md wr)) [0, 1, 2, 3, 4, 5, 6, 7] (by decide) rfl
          have hFc := va_free (wc := (wR cA h0 q1 q2 q3 q4 q5 q6 q7 rm fl us lg se we wh th nx md wr)) hD hS hA [0, 1, 2, 3, 4, 5, 6, 7] rfl
          refine va_calli (va_runV (As := [.int (fl (((5 : Int32) * v3) + (4 : Int32)).toNatClampNeg)]) (rest := []) ⟨hx, hb, hml, hown, hts⟩ (c_R_dataOf l dC dI cA h0 q1 q2 q3 q4 q5 q6 q7 H.size rm fl us lg se we wh th nx md wr (fl (((5 : Int32) * v3) + (4 : Int32)).toNatClampNeg) r49 wr49 hc49) (cwV 1 hts (tg_V bq_3_15 bq_3_17 bq_s_20 bq_1_4 bq_3_18) rfl rfl rfl (by decide +kernel) ⟨Nat.le_of_ble_eq_true rfl, Nat.le_of_ble_eq_true rfl⟩) ⟨tx_blW, (va_recv (ci := 2) (q0 := 0) hK hP rfl rfl), tx_preW hPc hDc hK hNw⟩ rfl rfl hl.1 rfl (lv_room (Nat.le_of_ble_eq_true rfl)) d_R_mount_49 ⟨Nat.zero_le _, Nat.zero_le _⟩) hS (fun q _ h => hFc q h) hFc (fun zz _u t H locs ht hvm hw hB hz1 hk1 hS => ?_)
          subst hw
          obtain ⟨hP1, hD1⟩ := hB
          rw [ht] at hP1
          obtain ⟨hP2, hD2⟩ := va_join (wr := []) (w1 := (wR cA h0 q1 q2 q3 q4 q5 q6 q7 rm fl us lg se we wh th nx md wr49)) hP hD [0, 1, 2, 3, 4, 5, 6, 7] [] rfl rfl (by decide) (by decide) hk1 hFc hP1 hD1
          have hP := hP2.sub (ws' := (wR cA h0 q1 q2 q3 q4 q5 q6 q7 rm fl us lg se we wh th nx md wr49)) [0, 1, 2, 3, 4, 5, 6, 7] rfl
          have hD := hD2.sub (ws' := (wR cA h0 q1 q2 q3 q4 q5 q6 q7 rm fl us lg se we wh th nx md wr49)) [0, 1, 2, 3, 4, 5, 6, 7] (by decide) rfl
          refine lv_istore hx hb d_R_mount_52 hl (by decide) rfl (fun ls hl => ?_)
          have hl : lv_has ls 7 [(4, .int r49), (0, .ref h0), (1, .int v1), (2, .int v2), (3, .int v3)] := hl
          refine lv_aload_n hx hb d_R_mount_54 rfl (lv_at hl 1 rfl) ?_
          refine va_get (D := (dC, dI)) (ci := 2) (v := .ref q3) (C := "FlashStoreModel") (T := TR) (N := 11) hx hb hts inTR hown hK hP 0 rfl rfl 3 (by decide) w3 (fun _ h9 => h9) rfl d_R_mount_55 ?_
          refine lv_iload_n hx hb d_R_mount_58 rfl (lv_at hl 4 rfl) ?_
          refine lv_iload hx hb d_R_mount_59 (lv_at hl 0 rfl) ?_
          refine lv_ldc hx hb hown w4 d_R_mount_61 ?_
          refine lv_icmp_ne hx hb d_R_mount_63 (tgt := 70) (by decide) (fun h63 => ?_) (fun h63 => ?_)
          · have hF := tx_f h63 hF
            refine lv_iconst (v := (2 : Int32)) hx hb d_R_mount_70 (by decide) ?_
            exact J71 _ hrec0 hrec1 _ _ _ us lg se wh th nx wr49 v1 v2 v3 r49 (2 : Int32) v3 hP hD hS (lv_sub hl [1, 2, 3, 4, 0] rfl) hF
          · have hF := tx_t h63 hF
            refine lv_iconst (v := (0 : Int32)) hx hb d_R_mount_66 (by decide) ?_
            refine lv_goto hx hb d_R_mount_67 (tgt := 71) (by decide) ?_
            exact J71 _ hrec0 hrec1 _ _ _ us lg se wh th nx wr49 v1 v2 v3 r49 (0 : Int32) v3 hP hD hS (lv_sub hl [1, 2, 3, 4, 0] rfl) hF
  obtain ⟨hrec0, hrec1⟩ := LH 100
  have hF : (f_R_mount_H 100 rm fl us lg se wh (0 : Int32) nx wr 0 (0 : Int32) 0 0) = some (r, us', lg', se', wh', th', nx', wr') := hF
  refine lv_aload_n hx hb d_R_mount_0 rfl (lv_at hl 0 rfl) ?_
  refine lv_iconst (v := (0 : Int32)) hx hb d_R_mount_1 (by decide) ?_
  refine va_put (D := (dC, dI)) (ci := 2) (v := .int (0 : Int32)) (ty := .int) (C := "FlashStoreModel") (T := TR) (N := 11) hx hb hts inTR tyTR tyTR_ok nmTR hown hK hP hD hS 0 rfl rfl 0 (by decide) w0 (fun _ h9 => h9) rfl (by decide +kernel) rfl rfl (Nat.le_of_ble_eq_true rfl) d_R_mount_2 (fun H locs hP hD hS => ?_)
  have hP : va_P (dC, dI) vwCl (wR cA h0 q1 q2 q3 q4 q5 q6 q7 rm fl us lg se we wh (0 : Int32) nx md wr) H := hP
  have hD : va_D A (wR cA h0 q1 q2 q3 q4 q5 q6 q7 rm fl us lg se we wh (0 : Int32) nx md wr) := hD
  refine lv_iconst (v := (0 : Int32)) hx hb d_R_mount_5 (by decide) ?_
  refine lv_istore_n hx hb d_R_mount_6 rfl hl (by decide) rfl (fun ls hl => ?_)
  have hl : lv_has ls 7 [(1, .int (0 : Int32)), (0, .ref h0)] := hl
  exact hrec0 _ _ _ us lg se wh (0 : Int32) nx wr (0 : Int32) hP hD hS (lv_sub hl [1, 0] rfl) hF
abbrev rm_R_spoil : Room := { frames := 2, cells := 0, slots := 0, locals := 42 }
set_option maxHeartbeats 4000000 in
set_option maxRecDepth 100000 in
theorem c_R_spoil (l : Launch) (dC : Nat → ClassId) (dI : Nat → Nat → Nat) (cA : ClassId) (h0 q1 q2 q3 q4 q5 q6 q7 sz : Nat) (rm fl us lg se we wh : Nat → Int32) (th nx md wr : Int32) (a1 : Int32) (a2 : Int32) (a3 : Int32) (a4 : Int32) (fl' : Nat → Int32) (th' : Int32) (hF : f_R_spoil fl th a1 a2 a3 a4 = some (fl', th')) : Met l y_R_spoil ws_R_spoil rm_R_spoil (tx_PW [.ref h0, .int a1, .int a2, .int a3, .int a4] (dC, dI) [(cA, .int)] (wR cA h0 q1 q2 q3 q4 q5 q6 q7 rm fl us lg se we wh th nx md wr) sz) (va_Qv (S := Unit) (fun _ => True) (fun _ t => va_P (dC, dI) vwCl (wR cA h0 q1 q2 q3 q4 q5 q6 q7 rm (fl') us lg se we wh (th') nx md wr) t.heap ∧ va_D (va_A (wR cA h0 q1 q2 q3 q4 q5 q6 q7 rm fl us lg se we wh th nx md wr) sz) (wR cA h0 q1 q2 q3 q4 q5 q6 q7 rm (fl') us lg se we wh (th') nx md wr)) (va_A (wR cA h0 q1 q2 q3 q4 q5 q6 q7 rm fl us lg se we wh th nx md wr) sz)) 0 0 (va_A (wR cA h0 q1 q2 q3 q4 q5 q6 q7 rm fl us lg se we wh th nx md wr) sz) := by
  refine Met.ofW (cc := b_R_spoil) (maxL := 6) (ret := none) (by decide +kernel) rfl ?_
  intro p e s m args below meth c s₁ B hml hv
  obtain ⟨hargs, hsz, hP, hK, hD0, hNw⟩ := hv
  have hx := B.exec
  have hb := B.bytes
  have hr := B.returns
  have hts := atoms_spec (ws := ws_R_spoil) B.pre
  have hown : s.vm.findClass "FlashStoreModel" = some m.cls := findClass_of_methodNamed B.named
  have hlocks := B.notSynchronized
  subst hsz
  have hD := hD0.self (sz := s.heap.size)
  generalize hAe : va_A (wR cA h0 q1 q2 q3 q4 q5 q6 q7 rm fl us lg se we wh th nx md wr) s.heap.size = A at hD ⊢
  have hA : ∀ q : Nat, s.heap.size ≤ q → A q := fun q h => by rw [← hAe]; exact Or.inr h
  have hS : va_S A s.heap s.heap [] := va_S.rf
  have hP : va_P (dC, dI) vwCl (wR cA h0 q1 q2 q3 q4 q5 q6 q7 rm fl us lg se we wh th nx md wr) s.heap := hP
  have w0 := (hts _ (List.mem_cons_of_mem _ bq_2_192))
  have w1 := (hts _ (List.mem_cons_of_mem _ bq_2_194))
  have hl := lv_entry ([.ref h0, .int a1, .int a2, .int a3, .int a4]) (n := 6) (Nat.le_of_ble_eq_true rfl)
  have hen : entryFrame m args 6 = _ := (congrArg (fun z => entryFrame m z 6) hargs).trans (lg_entry_eq m ([.ref h0, .int a1, .int a2, .int a3, .int a4]) 6)
  refine W.eq hen ?_
  clear hen
  generalize (lg_sl ([.ref h0, .int a1, .int a2, .int a3, .int a4]) ++ List.replicate (6 - (lg_sl ([.ref h0, .int a1, .int a2, .int a3, .int a4])).length) Slot.unset).toArray = ls at hl ⊢
  have hl : lv_has ls 6 [(0, .ref h0), (1, .int a1), (2, .int a2), (3, .int a3), (4, .int a4)] := hl
  have J65 : ∀ (H : Heap) (locs : List Loc) (ls : Array Slot) (fl : Nat → Int32) (th : Int32), va_P (dC, dI) vwCl (wR cA h0 q1 q2 q3 q4 q5 q6 q7 rm fl us lg se we wh th nx md wr) H → va_D A (wR cA h0 q1 q2 q3 q4 q5 q6 q7 rm fl us lg se we wh th nx md wr) → va_S A s.heap H locs → lv_has ls 6 [] → f_R_spoil_J65 fl th = some (fl', th') → W p l e (headSpec ws_R_spoil rm_R_spoil).room s m args below meth c H locs 0 0 (MQ below (va_Qv (S := Unit) (fun _ => True) (fun _ t => va_P (dC, dI) vwCl (wR cA h0 q1 q2 q3 q4 q5 q6 q7 rm (fl') us lg se we wh (th') nx md wr) t.heap ∧ va_D A (wR cA h0 q1 q2 q3 q4 q5 q6 q7 rm (fl') us lg se we wh (th') nx md wr)) A) args s 0 0 A) (F0 m 65 ls []) := by
    intro H locs ls fl th hP hD hS hl hF
    have hF : (some (fl, th)) = some (fl', th') := hF
    cases hF
    exact W.vret hx hb hr (fun t ht hW => ⟨⟨(), rfl, trivial, by rw [ht]; exact hP, hD⟩, hS.F ht⟩) hS.2.2 d_R_spoil_65
  have J27 : ∀ (H : Heap) (locs : List Loc) (ls : Array Slot) (fl : Nat → Int32) (th : Int32) (v1 : Int32) (v2 : Int32) (v3 : Int32) (v4 : Int32) (z0 : Int32), va_P (dC, dI) vwCl (wR cA h0 q1 q2 q3 q4 q5 q6 q7 rm fl us lg se we wh th nx md wr) H → va_D A (wR cA h0 q1 q2 q3 q4 q5 q6 q7 rm fl us lg se we wh th nx md wr) → va_S A s.heap H locs → lv_has ls 6 [(0, .ref h0), (1, .int v1), (2, .int v2), (3, .int v3), (4, .int v4)] → f_R_spoil_J27 fl th v1 v2 v3 v4 z0 = some (fl', th') → W p l e (headSpec ws_R_spoil rm_R_spoil).room s m args below meth c H locs 0 0 (MQ below (va_Qv (S := Unit) (fun _ => True) (fun _ t => va_P (dC, dI) vwCl (wR cA h0 q1 q2 q3 q4 q5 q6 q7 rm (fl') us lg se we wh (th') nx md wr) t.heap ∧ va_D A (wR cA h0 q1 q2 q3 q4 q5 q6 q7 rm (fl') us lg se we wh (th') nx md wr)) A) args s 0 0 A) (F0 m 27 ls [.int z0, .ref h0]) := by
    intro H locs ls fl th v1 v2 v3 v4 z0 hP hD hS hl hF
    have hF : (if z0 = 0 then (if (((5 : Int32) * (((4 : Int32) * v1) + v2)) + v3) < 0 ∨ 80 ≤ (((5 : Int32) * (((4 : Int32) * v1) + v2)) + v3).toNatClampNeg then none else f_R_spoil_J65 (upd fl (((5 : Int32) * (((4 : Int32) * v1) + v2)) + v3).toNatClampNeg ((fl (((5 : Int32) * (((4 : Int32) * v1) + v2)) + v3).toNatClampNeg) ^^^ v4)) z0) else (f_R_spoil_J65 fl z0)) = some (fl', th') := hF
    refine va_put (D := (dC, dI)) (ci := 2) (v := .int z0) (ty := .int) (C := "FlashStoreModel") (T := TR) (N := 11) hx hb hts inTR tyTR tyTR_ok nmTR hown hK hP hD hS 0 rfl rfl 0 (by decide) w0 (fun _ h9 => h9) rfl (by decide +kernel) rfl rfl (Nat.le_of_ble_eq_true rfl) d_R_spoil_27 (fun H locs hP hD hS => ?_)
    have hP : va_P (dC, dI) vwCl (wR cA h0 q1 q2 q3 q4 q5 q6 q7 rm fl us lg se we wh z0 nx md wr) H := hP
    have hD : va_D A (wR cA h0 q1 q2 q3 q4 q5 q6 q7 rm fl us lg se we wh z0 nx md wr) := hD
    refine lv_iconst (v := (5 : Int32)) hx hb d_R_spoil_30 (by decide) ?_
    refine lv_iconst (v := (4 : Int32)) hx hb d_R_spoil_31 (by decide) ?_
    refine lv_iload_n hx hb d_R_spoil_32 rfl (lv_at hl 1 rfl) ?_
    refine lv_imul hx hb d_R_spoil_33 ?_
    refine lv_iload_n hx hb d_R_spoil_34 rfl (lv_at hl 2 rfl) ?_
    refine lv_iadd hx hb d_R_spoil_35 ?_
    refine lv_imul hx hb d_R_spoil_36 ?_
    refine lv_iload_n hx hb d_R_spoil_37 rfl (lv_at hl 3 rfl) ?_
    refine lv_iadd hx hb d_R_spoil_38 ?_
    refine lv_istore hx hb d_R_spoil_39 hl (by decide) rfl (fun ls hl => ?_)
    have hl : lv_has ls 6 [(5, .int (((5 : Int32) * (((4 : Int32) * v1) + v2)) + v3)), (0, .ref h0), (1, .int v1), (2, .int v2), (3, .int v3), (4, .int v4)] := hl
    refine lv_aload_n hx hb d_R_spoil_41 rfl (lv_at hl 1 rfl) ?_
    refine va_get (D := (dC, dI)) (ci := 2) (v := .int z0) (C := "FlashStoreModel") (T := TR) (N := 11) hx hb hts inTR hown hK hP 0 rfl rfl 0 (by decide) w0 (fun _ h9 => h9) rfl d_R_spoil_42 ?_
    refine lv_if_ne hx hb d_R_spoil_45 (tgt := 65) (by decide) (fun h45 => ?_) (fun h45 => ?_)
    · have hF := tx_f h45 hF
      exact J65 _ _ _ fl z0 hP hD hS (lv_sub hl [] rfl) hF
    · have hF := tx_t h45 hF
      refine lv_aload_n hx hb d_R_spoil_48 rfl (lv_at hl 1 rfl) ?_
      refine va_get (D := (dC, dI)) (ci := 2) (v := .ref q2) (C := "FlashStoreModel") (T := TR) (N := 11) hx hb hts inTR hown hK hP 0 rfl rfl 2 (by decide) w1 (fun _ h9 => h9) rfl d_R_spoil_49 ?_
      refine lv_iload hx hb d_R_spoil_52 (lv_at hl 0 rfl) ?_
      refine lv_aload_n hx hb d_R_spoil_54 rfl (lv_at hl 1 rfl) ?_
      refine va_get (D := (dC, dI)) (ci := 2) (v := .ref q2) (C := "FlashStoreModel") (T := TR) (N := 11) hx hb hts inTR hown hK hP 0 rfl rfl 2 (by decide) w1 (fun _ h9 => h9) rfl d_R_spoil_55 ?_
      refine lv_iload hx hb d_R_spoil_58 (lv_at hl 0 rfl) ?_
      obtain ⟨hi60, hF⟩ := tx_g hF
      refine va_iald hx hb hK hP 2 0 rfl rfl hi60 d_R_spoil_60 ?_
      refine lv_iload hx hb d_R_spoil_61 (lv_at hl 5 rfl) ?_
      refine lv_ixor hx hb d_R_spoil_63 ?_
      refine va_iast hx hb hK hP hD hS 2 0 rfl rfl hi60 d_R_spoil_64 (fun H locs hP hD hS => ?_)
      have hP : va_P (dC, dI) vwCl (wR cA h0 q1 q2 q3 q4 q5 q6 q7 rm (upd fl (((5 : Int32) * (((4 : Int32) * v1) + v2)) + v3).toNatClampNeg ((fl (((5 : Int32) * (((4 : Int32) * v1) + v2)) + v3).toNatClampNeg) ^^^ v4)) us lg se we wh z0 nx md wr) H := hP
      have hD : va_D A (wR cA h0 q1 q2 q3 q4 q5 q6 q7 rm (upd fl (((5 : Int32) * (((4 : Int32) * v1) + v2)) + v3).toNatClampNeg ((fl (((5 : Int32) * (((4 : Int32) * v1) + v2)) + v3).toNatClampNeg) ^^^ v4)) us lg se we wh z0 nx md wr) := hD
      exact J65 _ _ _ (upd fl (((5 : Int32) * (((4 : Int32) * v1) + v2)) + v3).toNatClampNeg ((fl (((5 : Int32) * (((4 : Int32) * v1) + v2)) + v3).toNatClampNeg) ^^^ v4)) z0 hP hD hS (lv_sub hl [] rfl) hF
  have J26 : ∀ (H : Heap) (locs : List Loc) (ls : Array Slot) (fl : Nat → Int32) (th : Int32) (v1 : Int32) (v2 : Int32) (v3 : Int32) (v4 : Int32), va_P (dC, dI) vwCl (wR cA h0 q1 q2 q3 q4 q5 q6 q7 rm fl us lg se we wh th nx md wr) H → va_D A (wR cA h0 q1 q2 q3 q4 q5 q6 q7 rm fl us lg se we wh th nx md wr) → va_S A s.heap H locs → lv_has ls 6 [(0, .ref h0), (1, .int v1), (2, .int v2), (3, .int v3), (4, .int v4)] → f_R_spoil_J26 fl th v1 v2 v3 v4 = some (fl', th') → W p l e (headSpec ws_R_spoil rm_R_spoil).room s m args below meth c H locs 0 0 (MQ below (va_Qv (S := Unit) (fun _ => True) (fun _ t => va_P (dC, dI) vwCl (wR cA h0 q1 q2 q3 q4 q5 q6 q7 rm (fl') us lg se we wh (th') nx md wr) t.heap ∧ va_D A (wR cA h0 q1 q2 q3 q4 q5 q6 q7 rm (fl') us lg se we wh (th') nx md wr)) A) args s 0 0 A) (F0 m 26 ls [.ref h0]) := by
    intro H locs ls fl th v1 v2 v3 v4 hP hD hS hl hF
    have hF : (f_R_spoil_J27 fl th v1 v2 v3 v4 (1 : Int32)) = some (fl', th') := hF
    refine lv_iconst (v := (1 : Int32)) hx hb d_R_spoil_26 (by decide) ?_
    exact J27 _ _ _ fl th v1 v2 v3 v4 (1 : Int32) hP hD hS hl hF
  have hF : ((f_R_isPage a1 a2).bind fun r3 => if r3 = 0 then (f_R_spoil_J26 fl th a1 a2 a3 a4) else ((f_R_out a3 (5 : Int32)).bind fun r11 => if r11 = 0 then (if a4 < 0 then (f_R_spoil_J26 fl th a1 a2 a3 a4) else (f_R_spoil_J27 fl th a1 a2 a3 a4 (0 : Int32))) else (f_R_spoil_J26 fl th a1 a2 a3 a4))) = some (fl', th') := hF
  refine lv_aload_n hx hb d_R_spoil_0 rfl (lv_at hl 0 rfl) ?_
  refine lv_iload_n hx hb d_R_spoil_1 rfl (lv_at hl 1 rfl) ?_
  refine lv_iload_n hx hb d_R_spoil_2 rfl (lv_at hl 2 rfl) ?_
  obtain ⟨r3, hc3, hF⟩ := tx_b hF
  refine vp_callSi (W.runS (As := [.int a1, .int a2]) (rest := [.ref h0]) ⟨hx, hb, hml, hown, hts⟩ (c_R_isPage l a1 a2 r3 hc3) (va_cwS 2 hts (tg_S bq_3_92 bq_3_93 bq_1_4 bq_3_94) rfl rfl rfl (by decide +kernel) ⟨Nat.le_of_ble_eq_true rfl, Nat.le_of_ble_eq_true rfl⟩) ⟨tx_bl0, tx_pre0⟩ rfl rfl hl.1 rfl (lv_room (Nat.le_of_ble_eq_true rfl)) d_R_spoil_3 ⟨Nat.zero_le _, Nat.zero_le _⟩) (fun zz hz => ?_)
  subst hz
  refine lv_if_eq hx hb d_R_spoil_6 (tgt := 26) (by decide) (fun h6 => ?_) (fun h6 => ?_)
  · have hF := tx_t h6 hF
    exact J26 _ _ _ fl th a1 a2 a3 a4 hP hD hS hl hF
  · have hF := tx_f h6 hF
    refine lv_iload_n hx hb d_R_spoil_9 rfl (lv_at hl 3 rfl) ?_
    refine lv_iconst (v := (5 : Int32)) hx hb d_R_spoil_10 (by decide) ?_
    obtain ⟨r11, hc11, hF⟩ := tx_b hF
    refine vp_callSi (W.runS (As := [.int a3, .int (5 : Int32)]) (rest := [.ref h0]) ⟨hx, hb, hml, hown, hts⟩ (c_R_out l a3 (5 : Int32) r11 hc11) (va_cwS 2 hts (tg_S bq_2_235 bq_2_236 bq_1_4 bq_2_237) rfl rfl rfl (by decide +kernel) ⟨Nat.le_of_ble_eq_true rfl, Nat.le_of_ble_eq_true rfl⟩) ⟨tx_bl0, tx_pre0⟩ rfl rfl hl.1 rfl (lv_room (Nat.le_of_ble_eq_true rfl)) d_R_spoil_11 ⟨Nat.zero_le _, Nat.zero_le _⟩) (fun zz hz => ?_)
    subst hz
    refine lv_if_ne hx hb d_R_spoil_14 (tgt := 26) (by decide) (fun h14 => ?_) (fun h14 => ?_)
    · have hF := tx_f h14 hF
      exact J26 _ _ _ fl th a1 a2 a3 a4 hP hD hS hl hF
    · have hF := tx_t h14 hF
      refine lv_iload hx hb d_R_spoil_17 (lv_at hl 4 rfl) ?_
      refine lv_if_lt hx hb d_R_spoil_19 (tgt := 26) (by decide) (fun h19 => ?_) (fun h19 => ?_)
      · have hF := tx_t h19 hF
        exact J26 _ _ _ fl th a1 a2 a3 a4 hP hD hS hl hF
      · have hF := tx_f h19 hF
        refine lv_iconst (v := (0 : Int32)) hx hb d_R_spoil_22 (by decide) ?_
        refine lv_goto hx hb d_R_spoil_23 (tgt := 27) (by decide) ?_
        exact J27 _ _ _ fl th a1 a2 a3 a4 (0 : Int32) hP hD hS hl hF
abbrev rm_R_flash : Room := { frames := 2, cells := 0, slots := 0, locals := 42 }
set_option maxHeartbeats 4000000 in
set_option maxRecDepth 100000 in
theorem c_R_flash (l : Launch) (dC : Nat → ClassId) (dI : Nat → Nat → Nat) (cA : ClassId) (h0 q1 q2 q3 q4 q5 q6 q7 sz : Nat) (rm fl us lg se we wh : Nat → Int32) (th nx md wr : Int32) (a1 : Int32) (a2 : Int32) (a3 : Int32) (r : Int32) (th' : Int32) (hF : f_R_flash fl th a1 a2 a3 = some (r, th')) : Met l y_R_flash ws_R_flash rm_R_flash (tx_PW [.ref h0, .int a1, .int a2, .int a3] (dC, dI) [(cA, .int)] (wR cA h0 q1 q2 q3 q4 q5 q6 q7 rm fl us lg se we wh th nx md wr) sz) (va_Qi (S := Unit) (fun z _ => r = z) (fun _ t => va_P (dC, dI) vwCl (wR cA h0 q1 q2 q3 q4 q5 q6 q7 rm fl us lg se we wh (th') nx md wr) t.heap ∧ va_D (va_A (wR cA h0 q1 q2 q3 q4 q5 q6 q7 rm fl us lg se we wh th nx md wr) sz) (wR cA h0 q1 q2 q3 q4 q5 q6 q7 rm fl us lg se we wh (th') nx md wr)) (va_A (wR cA h0 q1 q2 q3 q4 q5 q6 q7 rm fl us lg se we wh th nx md wr) sz)) 0 0 (va_A (wR cA h0 q1 q2 q3 q4 q5 q6 q7 rm fl us lg se we wh th nx md wr) sz) := by
  refine Met.ofW (cc := b_R_flash) (maxL := 4) (ret := some .int) (by decide +kernel) rfl ?_
  intro p e s m args below meth c s₁ B hml hv
  obtain ⟨hargs, hsz, hP, hK, hD0, hNw⟩ := hv
  have hx := B.exec
  have hb := B.bytes
  have hr := B.returns
  have hts := atoms_spec (ws := ws_R_flash) B.pre
  have hown : s.vm.findClass "FlashStoreModel" = some m.cls := findClass_of_methodNamed B.named
  have hlocks := B.notSynchronized
  subst hsz
  have hD := hD0.self (sz := s.heap.size)
  generalize hAe : va_A (wR cA h0 q1 q2 q3 q4 q5 q6 q7 rm fl us lg se we wh th nx md wr) s.heap.size = A at hD ⊢
  have hA : ∀ q : Nat, s.heap.size ≤ q → A q := fun q h => by rw [← hAe]; exact Or.inr h
  have hS : va_S A s.heap s.heap [] := va_S.rf
  have hP : va_P (dC, dI) vwCl (wR cA h0 q1 q2 q3 q4 q5 q6 q7 rm fl us lg se we wh th nx md wr) s.heap := hP
  have w0 := (hts _ (List.mem_cons_of_mem _ bq_2_192))
  have w1 := (hts _ (List.mem_cons_of_mem _ bq_2_194))
  have hl := lv_entry ([.ref h0, .int a1, .int a2, .int a3]) (n := 4) (Nat.le_of_ble_eq_true rfl)
  have hen : entryFrame m args 4 = _ := (congrArg (fun z => entryFrame m z 4) hargs).trans (lg_entry_eq m ([.ref h0, .int a1, .int a2, .int a3]) 4)
  refine W.eq hen ?_
  clear hen
  generalize (lg_sl ([.ref h0, .int a1, .int a2, .int a3]) ++ List.replicate (4 - (lg_sl ([.ref h0, .int a1, .int a2, .int a3])).length) Slot.unset).toArray = ls at hl ⊢
  have hl : lv_has ls 4 [(0, .ref h0), (1, .int a1), (2, .int a2), (3, .int a3)] := hl
  have J43 : ∀ (H : Heap) (locs : List Loc) (ls : Array Slot) (th : Int32) (z0 : Int32), va_P (dC, dI) vwCl (wR cA h0 q1 q2 q3 q4 q5 q6 q7 rm fl us lg se we wh th nx md wr) H → va_D A (wR cA h0 q1 q2 q3 q4 q5 q6 q7 rm fl us lg se we wh th nx md wr) → va_S A s.heap H locs → lv_has ls 4 [] → f_R_flash_J43 fl th z0 = some (r, th') → W p l e (headSpec ws_R_flash rm_R_flash).room s m args below meth c H locs 0 0 (MQ below (va_Qi (S := Unit) (fun z _ => r = z) (fun _ t => va_P (dC, dI) vwCl (wR cA h0 q1 q2 q3 q4 q5 q6 q7 rm fl us lg se we wh (th') nx md wr) t.heap ∧ va_D A (wR cA h0 q1 q2 q3 q4 q5 q6 q7 rm fl us lg se we wh (th') nx md wr)) A) args s 0 0 A) (F0 m 43 ls [.int z0]) := by
    intro H locs ls th z0 hP hD hS hl hF
    have hF : (some (z0, th)) = some (r, th') := hF
    cases hF
    exact W.iret hx hb hr (fun t ht hW => ⟨⟨_, (), rfl, rfl, by rw [ht]; exact hP, hD⟩, hS.F ht⟩) hS.2.2 d_R_flash_43
  have J38 : ∀ (H : Heap) (locs : List Loc) (ls : Array Slot) (th : Int32), va_P (dC, dI) vwCl (wR cA h0 q1 q2 q3 q4 q5 q6 q7 rm fl us lg se we wh th nx md wr) H → va_D A (wR cA h0 q1 q2 q3 q4 q5 q6 q7 rm fl us lg se we wh th nx md wr) → va_S A s.heap H locs → lv_has ls 4 [(0, .ref h0)] → f_R_flash_J38 fl th = some (r, th') → W p l e (headSpec ws_R_flash rm_R_flash).room s m args below meth c H locs 0 0 (MQ below (va_Qi (S := Unit) (fun z _ => r = z) (fun _ t => va_P (dC, dI) vwCl (wR cA h0 q1 q2 q3 q4 q5 q6 q7 rm fl us lg se we wh (th') nx md wr) t.heap ∧ va_D A (wR cA h0 q1 q2 q3 q4 q5 q6 q7 rm fl us lg se we wh (th') nx md wr)) A) args s 0 0 A) (F0 m 38 ls []) := by
    intro H locs ls th hP hD hS hl hF
    have hF : ((f_R_fail th (1 : Int32)).bind fun (r40, th40) => f_R_flash_J43 fl th40 r40) = some (r, th') := hF
    refine lv_aload_n hx hb d_R_flash_38 rfl (lv_at hl 0 rfl) ?_
    refine lv_iconst (v := (1 : Int32)) hx hb d_R_flash_39 (by decide) ?_
    obtain ⟨⟨r40, th40⟩, hc40, hF⟩ := tx_b hF
    try dsimp only at hF
    have hPc := hP.sub (ws' := (wR cA h0 q1 q2 q3 q4 q5 q6 q7 rm fl us lg se we wh th nx md wr)) [0, 1, 2, 3, 4, 5, 6, 7] rfl
    have hDc := hD.sub (ws' := (wR cA h0 q1 q2 q3 q4 q5 q6 q7 rm fl us lg se we wh th nx md wr)) [0, 1, 2, 3, 4, 5, 6, 7] (by decide) rfl
    have hFc := va_free (wc := (wR cA h0 q1 q2 q3 q4 q5 q6 q7 rm fl us lg se we wh th nx md wr)) hD hS hA [0, 1, 2, 3, 4, 5, 6, 7] rfl
    refine va_calli (va_runV (As := [.int (1 : Int32)]) (rest := []) ⟨hx, hb, hml, hown, hts⟩ (c_R_fail l dC dI cA h0 q1 q2 q3 q4 q5 q6 q7 H.size rm fl us lg se we wh th nx md wr (1 : Int32) r40 th40 hc40) (cwV 1 hts (tg_V bq_2_238 bq_3_0 bq_s_17 bq_1_4 bq_3_1) rfl rfl rfl (by decide +kernel) ⟨Nat.le_of_ble_eq_true rfl, Nat.le_of_ble_eq_true rfl⟩) ⟨tx_blW, (va_recv (ci := 2) (q0 := 0) hK hP rfl rfl), tx_preW hPc hDc hK hNw⟩ rfl rfl hl.1 rfl (lv_room (Nat.le_of_ble_eq_true rfl)) d_R_flash_40 ⟨Nat.zero_le _, Nat.zero_le _⟩) hS (fun q _ h => hFc q h) hFc (fun zz _u t H locs ht hvm hw hB hz1 hk1 hS => ?_)
    subst hw
    obtain ⟨hP1, hD1⟩ := hB
    rw [ht] at hP1
    obtain ⟨hP2, hD2⟩ := va_join (wr := []) (w1 := (wR cA h0 q1 q2 q3 q4 q5 q6 q7 rm fl us lg se we wh th40 nx md wr)) hP hD [0, 1, 2, 3, 4, 5, 6, 7] [] rfl rfl (by decide) (by decide) hk1 hFc hP1 hD1
    have hP := hP2.sub (ws' := (wR cA h0 q1 q2 q3 q4 q5 q6 q7 rm fl us lg se we wh th40 nx md wr)) [0, 1, 2, 3, 4, 5, 6, 7] rfl
    have hD := hD2.sub (ws' := (wR cA h0 q1 q2 q3 q4 q5 q6 q7 rm fl us lg se we wh th40 nx md wr)) [0, 1, 2, 3, 4, 5, 6, 7] (by decide) rfl
    exact J43 _ _ _ th40 r40 hP hD hS (lv_sub hl [] rfl) hF
  have hF : ((f_R_isPage a1 a2).bind fun r7 => if r7 = 0 then (f_R_flash_J38 fl (0 : Int32)) else ((f_R_out a3 (5 : Int32)).bind fun r15 => if r15 = 0 then (if (((5 : Int32) * (((4 : Int32) * a1) + a2)) + a3) < 0 ∨ 80 ≤ (((5 : Int32) * (((4 : Int32) * a1) + a2)) + a3).toNatClampNeg then none else f_R_flash_J43 fl (0 : Int32) (fl (((5 : Int32) * (((4 : Int32) * a1) + a2)) + a3).toNatClampNeg)) else (f_R_flash_J38 fl (0 : Int32)))) = some (r, th') := hF
  refine lv_aload_n hx hb d_R_flash_0 rfl (lv_at hl 0 rfl) ?_
  refine lv_iconst (v := (0 : Int32)) hx hb d_R_flash_1 (by decide) ?_
  refine va_put (D := (dC, dI)) (ci := 2) (v := .int (0 : Int32)) (ty := .int) (C := "FlashStoreModel") (T := TR) (N := 11) hx hb hts inTR tyTR tyTR_ok nmTR hown hK hP hD hS 0 rfl rfl 0 (by decide) w0 (fun _ h9 => h9) rfl (by decide +kernel) rfl rfl (Nat.le_of_ble_eq_true rfl) d_R_flash_2 (fun H locs hP hD hS => ?_)
  have hP : va_P (dC, dI) vwCl (wR cA h0 q1 q2 q3 q4 q5 q6 q7 rm fl us lg se we wh (0 : Int32) nx md wr) H := hP
  have hD : va_D A (wR cA h0 q1 q2 q3 q4 q5 q6 q7 rm fl us lg se we wh (0 : Int32) nx md wr) := hD
  refine lv_iload_n hx hb d_R_flash_5 rfl (lv_at hl 1 rfl) ?_
  refine lv_iload_n hx hb d_R_flash_6 rfl (lv_at hl 2 rfl) ?_
  obtain ⟨r7, hc7, hF⟩ := tx_b hF
  refine vp_callSi (W.runS (As := [.int a1, .int a2]) (rest := []) ⟨hx, hb, hml, hown, hts⟩ (c_R_isPage l a1 a2 r7 hc7) (va_cwS 2 hts (tg_S bq_3_92 bq_3_93 bq_1_4 bq_3_94) rfl rfl rfl (by decide +kernel) ⟨Nat.le_of_ble_eq_true rfl, Nat.le_of_ble_eq_true rfl⟩) ⟨tx_bl0, tx_pre0⟩ rfl rfl hl.1 rfl (lv_room (Nat.le_of_ble_eq_true rfl)) d_R_flash_7 ⟨Nat.zero_le _, Nat.zero_le _⟩) (fun zz hz => ?_)
  subst hz
  refine lv_if_eq hx hb d_R_flash_10 (tgt := 38) (by decide) (fun h10 => ?_) (fun h10 => ?_)
  · have hF := tx_t h10 hF
    exact J38 _ _ _ (0 : Int32) hP hD hS (lv_sub hl [0] rfl) hF
  · have hF := tx_f h10 hF
    refine lv_iload_n hx hb d_R_flash_13 rfl (lv_at hl 3 rfl) ?_
    refine lv_iconst (v := (5 : Int32)) hx hb d_R_flash_14 (by decide) ?_
    obtain ⟨r15, hc15, hF⟩ := tx_b hF
    refine vp_callSi (W.runS (As := [.int a3, .int (5 : Int32)]) (rest := []) ⟨hx, hb, hml, hown, hts⟩ (c_R_out l a3 (5 : Int32) r15 hc15) (va_cwS 2 hts (tg_S bq_2_235 bq_2_236 bq_1_4 bq_2_237) rfl rfl rfl (by decide +kernel) ⟨Nat.le_of_ble_eq_true rfl, Nat.le_of_ble_eq_true rfl⟩) ⟨tx_bl0, tx_pre0⟩ rfl rfl hl.1 rfl (lv_room (Nat.le_of_ble_eq_true rfl)) d_R_flash_15 ⟨Nat.zero_le _, Nat.zero_le _⟩) (fun zz hz => ?_)
    subst hz
    refine lv_if_ne hx hb d_R_flash_18 (tgt := 38) (by decide) (fun h18 => ?_) (fun h18 => ?_)
    · have hF := tx_f h18 hF
      exact J38 _ _ _ (0 : Int32) hP hD hS (lv_sub hl [0] rfl) hF
    · have hF := tx_t h18 hF
      refine lv_aload_n hx hb d_R_flash_21 rfl (lv_at hl 0 rfl) ?_
      refine va_get (D := (dC, dI)) (ci := 2) (v := .ref q2) (C := "FlashStoreModel") (T := TR) (N := 11) hx hb hts inTR hown hK hP 0 rfl rfl 2 (by decide) w1 (fun _ h9 => h9) rfl d_R_flash_22 ?_
      refine lv_iconst (v := (5 : Int32)) hx hb d_R_flash_25 (by decide) ?_
      refine lv_iconst (v := (4 : Int32)) hx hb d_R_flash_26 (by decide) ?_
      refine lv_iload_n hx hb d_R_flash_27 rfl (lv_at hl 1 rfl) ?_
      refine lv_imul hx hb d_R_flash_28 ?_
      refine lv_iload_n hx hb d_R_flash_29 rfl (lv_at hl 2 rfl) ?_
      refine lv_iadd hx hb d_R_flash_30 ?_
      refine lv_imul hx hb d_R_flash_31 ?_
      refine lv_iload_n hx hb d_R_flash_32 rfl (lv_at hl 3 rfl) ?_
      refine lv_iadd hx hb d_R_flash_33 ?_
      obtain ⟨hi34, hF⟩ := tx_g hF
      refine va_iald hx hb hK hP 2 0 rfl rfl hi34 d_R_flash_34 ?_
      refine lv_goto hx hb d_R_flash_35 (tgt := 43) (by decide) ?_
      exact J43 _ _ _ (0 : Int32) (fl (((5 : Int32) * (((4 : Int32) * a1) + a2)) + a3).toNatClampNeg) hP hD hS (lv_sub hl [] rfl) hF
abbrev rm_R_place : Room := { frames := 1, cells := 0, slots := 0, locals := 21 }
set_option maxHeartbeats 4000000 in
set_option maxRecDepth 100000 in
theorem c_R_place (l : Launch) (dC : Nat → ClassId) (dI : Nat → Nat → Nat) (cA : ClassId) (h0 q1 q2 q3 q4 q5 q6 q7 sz : Nat) (rm fl us lg se we wh : Nat → Int32) (th nx md wr : Int32) (a1 : Int32) (r : Int32) (th' : Int32) (hF : f_R_place wh th a1 = some (r, th')) : Met l y_R_place ws_R_place rm_R_place (tx_PW [.ref h0, .int a1] (dC, dI) [(cA, .int)] (wR cA h0 q1 q2 q3 q4 q5 q6 q7 rm fl us lg se we wh th nx md wr) sz) (va_Qi (S := Unit) (fun z _ => r = z) (fun _ t => va_P (dC, dI) vwCl (wR cA h0 q1 q2 q3 q4 q5 q6 q7 rm fl us lg se we wh (th') nx md wr) t.heap ∧ va_D (va_A (wR cA h0 q1 q2 q3 q4 q5 q6 q7 rm fl us lg se we wh th nx md wr) sz) (wR cA h0 q1 q2 q3 q4 q5 q6 q7 rm fl us lg se we wh (th') nx md wr)) (va_A (wR cA h0 q1 q2 q3 q4 q5 q6 q7 rm fl us lg se we wh th nx md wr) sz)) 0 0 (va_A (wR cA h0 q1 q2 q3 q4 q5 q6 q7 rm fl us lg se we wh th nx md wr) sz) := by
  refine Met.ofW (cc := b_R_place) (maxL := 2) (ret := some .int) (by decide +kernel) rfl ?_
  intro p e s m args below meth c s₁ B hml hv
  obtain ⟨hargs, hsz, hP, hK, hD0, hNw⟩ := hv
  have hx := B.exec
  have hb := B.bytes
  have hr := B.returns
  have hts := atoms_spec (ws := ws_R_place) B.pre
  have hown : s.vm.findClass "FlashStoreModel" = some m.cls := findClass_of_methodNamed B.named
  have hlocks := B.notSynchronized
  subst hsz
  have hD := hD0.self (sz := s.heap.size)
  generalize hAe : va_A (wR cA h0 q1 q2 q3 q4 q5 q6 q7 rm fl us lg se we wh th nx md wr) s.heap.size = A at hD ⊢
  have hA : ∀ q : Nat, s.heap.size ≤ q → A q := fun q h => by rw [← hAe]; exact Or.inr h
  have hS : va_S A s.heap s.heap [] := va_S.rf
  have hP : va_P (dC, dI) vwCl (wR cA h0 q1 q2 q3 q4 q5 q6 q7 rm fl us lg se we wh th nx md wr) s.heap := hP
  have w0 := (hts _ (List.mem_cons_of_mem _ bq_2_192))
  have w1 := (hts _ (List.mem_cons_of_mem _ bq_2_199))
  have hl := lv_entry ([.ref h0, .int a1]) (n := 2) (Nat.le_of_ble_eq_true rfl)
  have hen : entryFrame m args 2 = _ := (congrArg (fun z => entryFrame m z 2) hargs).trans (lg_entry_eq m ([.ref h0, .int a1]) 2)
  refine W.eq hen ?_
  clear hen
  generalize (lg_sl ([.ref h0, .int a1]) ++ List.replicate (2 - (lg_sl ([.ref h0, .int a1])).length) Slot.unset).toArray = ls at hl ⊢
  have hl : lv_has ls 2 [(0, .ref h0), (1, .int a1)] := hl
  have J30 : ∀ (H : Heap) (locs : List Loc) (ls : Array Slot) (th : Int32) (z0 : Int32), va_P (dC, dI) vwCl (wR cA h0 q1 q2 q3 q4 q5 q6 q7 rm fl us lg se we wh th nx md wr) H → va_D A (wR cA h0 q1 q2 q3 q4 q5 q6 q7 rm fl us lg se we wh th nx md wr) → va_S A s.heap H locs → lv_has ls 2 [] → f_R_place_J30 wh th z0 = some (r, th') → W p l e (headSpec ws_R_place rm_R_place).room s m args below meth c H locs 0 0 (MQ below (va_Qi (S := Unit) (fun z _ => r = z) (fun _ t => va_P (dC, dI) vwCl (wR cA h0 q1 q2 q3 q4 q5 q6 q7 rm fl us lg se we wh (th') nx md wr) t.heap ∧ va_D A (wR cA h0 q1 q2 q3 q4 q5 q6 q7 rm fl us lg se we wh (th') nx md wr)) A) args s 0 0 A) (F0 m 30 ls [.int z0]) := by
    intro H locs ls th z0 hP hD hS hl hF
    have hF : (some (z0, th)) = some (r, th') := hF
    cases hF
    exact W.iret hx hb hr (fun t ht hW => ⟨⟨_, (), rfl, rfl, by rw [ht]; exact hP, hD⟩, hS.F ht⟩) hS.2.2 d_R_place_30
  have hF : ((f_R_out a1 (8 : Int32)).bind fun r8 => if r8 = 0 then (if a1 < 0 ∨ 8 ≤ a1.toNatClampNeg then none else f_R_place_J30 wh (0 : Int32) ((wh a1.toNatClampNeg) - (1 : Int32))) else ((f_R_fail (0 : Int32) (1 : Int32)).bind fun (r16, th16) => f_R_place_J30 wh th16 r16)) = some (r, th') := hF
  refine lv_aload_n hx hb d_R_place_0 rfl (lv_at hl 0 rfl) ?_
  refine lv_iconst (v := (0 : Int32)) hx hb d_R_place_1 (by decide) ?_
  refine va_put (D := (dC, dI)) (ci := 2) (v := .int (0 : Int32)) (ty := .int) (C := "FlashStoreModel") (T := TR) (N := 11) hx hb hts inTR tyTR tyTR_ok nmTR hown hK hP hD hS 0 rfl rfl 0 (by decide) w0 (fun _ h9 => h9) rfl (by decide +kernel) rfl rfl (Nat.le_of_ble_eq_true rfl) d_R_place_2 (fun H locs hP hD hS => ?_)
  have hP : va_P (dC, dI) vwCl (wR cA h0 q1 q2 q3 q4 q5 q6 q7 rm fl us lg se we wh (0 : Int32) nx md wr) H := hP
  have hD : va_D A (wR cA h0 q1 q2 q3 q4 q5 q6 q7 rm fl us lg se we wh (0 : Int32) nx md wr) := hD
  refine lv_iload_n hx hb d_R_place_5 rfl (lv_at hl 1 rfl) ?_
  refine lv_bipush (v := (8 : Int32)) hx hb d_R_place_6 (by decide) ?_
  obtain ⟨r8, hc8, hF⟩ := tx_b hF
  refine vp_callSi (W.runS (As := [.int a1, .int (8 : Int32)]) (rest := []) ⟨hx, hb, hml, hown, hts⟩ (c_R_out l a1 (8 : Int32) r8 hc8) (va_cwS 2 hts (tg_S bq_2_235 bq_2_236 bq_1_4 bq_2_237) rfl rfl rfl (by decide +kernel) ⟨Nat.le_of_ble_eq_true rfl, Nat.le_of_ble_eq_true rfl⟩) ⟨tx_bl0, tx_pre0⟩ rfl rfl hl.1 rfl (lv_room (Nat.le_of_ble_eq_true rfl)) d_R_place_8 ⟨Nat.zero_le _, Nat.zero_le _⟩) (fun zz hz => ?_)
  subst hz
  refine lv_if_eq hx hb d_R_place_11 (tgt := 22) (by decide) (fun h11 => ?_) (fun h11 => ?_)
  · have hF := tx_t h11 hF
    refine lv_aload_n hx hb d_R_place_22 rfl (lv_at hl 0 rfl) ?_
    refine va_get (D := (dC, dI)) (ci := 2) (v := .ref q7) (C := "FlashStoreModel") (T := TR) (N := 11) hx hb hts inTR hown hK hP 0 rfl rfl 7 (by decide) w1 (fun _ h9 => h9) rfl d_R_place_23 ?_
    refine lv_iload_n hx hb d_R_place_26 rfl (lv_at hl 1 rfl) ?_
    obtain ⟨hi27, hF⟩ := tx_g hF
    refine va_iald hx hb hK hP 7 0 rfl rfl hi27 d_R_place_27 ?_
    refine lv_iconst (v := (1 : Int32)) hx hb d_R_place_28 (by decide) ?_
    refine lv_isub hx hb d_R_place_29 ?_
    exact J30 _ _ _ (0 : Int32) ((wh a1.toNatClampNeg) - (1 : Int32)) hP hD hS (lv_sub hl [] rfl) hF
  · have hF := tx_f h11 hF
    refine lv_aload_n hx hb d_R_place_14 rfl (lv_at hl 0 rfl) ?_
    refine lv_iconst (v := (1 : Int32)) hx hb d_R_place_15 (by decide) ?_
    obtain ⟨⟨r16, th16⟩, hc16, hF⟩ := tx_b hF
    try dsimp only at hF
    have hPc := hP.sub (ws' := (wR cA h0 q1 q2 q3 q4 q5 q6 q7 rm fl us lg se we wh (0 : Int32) nx md wr)) [0, 1, 2, 3, 4, 5, 6, 7] rfl
    have hDc := hD.sub (ws' := (wR cA h0 q1 q2 q3 q4 q5 q6 q7 rm fl us lg se we wh (0 : Int32) nx md wr)) [0, 1, 2, 3, 4, 5, 6, 7] (by decide) rfl
    have hFc := va_free (wc := (wR cA h0 q1 q2 q3 q4 q5 q6 q7 rm fl us lg se we wh (0 : Int32) nx md wr)) hD hS hA [0, 1, 2, 3, 4, 5, 6, 7] rfl
    refine va_calli (va_runV (As := [.int (1 : Int32)]) (rest := []) ⟨hx, hb, hml, hown, hts⟩ (c_R_fail l dC dI cA h0 q1 q2 q3 q4 q5 q6 q7 H.size rm fl us lg se we wh (0 : Int32) nx md wr (1 : Int32) r16 th16 hc16) (cwV 1 hts (tg_V bq_2_238 bq_3_0 bq_s_17 bq_1_4 bq_3_1) rfl rfl rfl (by decide +kernel) ⟨Nat.le_of_ble_eq_true rfl, Nat.le_of_ble_eq_true rfl⟩) ⟨tx_blW, (va_recv (ci := 2) (q0 := 0) hK hP rfl rfl), tx_preW hPc hDc hK hNw⟩ rfl rfl hl.1 rfl (lv_room (Nat.le_of_ble_eq_true rfl)) d_R_place_16 ⟨Nat.zero_le _, Nat.zero_le _⟩) hS (fun q _ h => hFc q h) hFc (fun zz _u t H locs ht hvm hw hB hz1 hk1 hS => ?_)
    subst hw
    obtain ⟨hP1, hD1⟩ := hB
    rw [ht] at hP1
    obtain ⟨hP2, hD2⟩ := va_join (wr := []) (w1 := (wR cA h0 q1 q2 q3 q4 q5 q6 q7 rm fl us lg se we wh th16 nx md wr)) hP hD [0, 1, 2, 3, 4, 5, 6, 7] [] rfl rfl (by decide) (by decide) hk1 hFc hP1 hD1
    have hP := hP2.sub (ws' := (wR cA h0 q1 q2 q3 q4 q5 q6 q7 rm fl us lg se we wh th16 nx md wr)) [0, 1, 2, 3, 4, 5, 6, 7] rfl
    have hD := hD2.sub (ws' := (wR cA h0 q1 q2 q3 q4 q5 q6 q7 rm fl us lg se we wh th16 nx md wr)) [0, 1, 2, 3, 4, 5, 6, 7] (by decide) rfl
    refine lv_goto hx hb d_R_place_19 (tgt := 30) (by decide) ?_
    exact J30 _ _ _ th16 r16 hP hD hS (lv_sub hl [] rfl) hF
abbrev rm_R_state : Room := { frames := 2, cells := 0, slots := 0, locals := 42 }
set_option maxHeartbeats 4000000 in
set_option maxRecDepth 100000 in
theorem c_R_state (l : Launch) (dC : Nat → ClassId) (dI : Nat → Nat → Nat) (cA : ClassId) (h0 q1 q2 q3 q4 q5 q6 q7 sz : Nat) (rm fl us lg se we wh : Nat → Int32) (th nx md wr : Int32) (a1 : Int32) (a2 : Int32) (r : Int32) (th' : Int32) (hF : f_R_state us th a1 a2 = some (r, th')) : Met l y_R_state ws_R_state rm_R_state (tx_PW [.ref h0, .int a1, .int a2] (dC, dI) [(cA, .int)] (wR cA h0 q1 q2 q3 q4 q5 q6 q7 rm fl us lg se we wh th nx md wr) sz) (va_Qi (S := Unit) (fun z _ => r = z) (fun _ t => va_P (dC, dI) vwCl (wR cA h0 q1 q2 q3 q4 q5 q6 q7 rm fl us lg se we wh (th') nx md wr) t.heap ∧ va_D (va_A (wR cA h0 q1 q2 q3 q4 q5 q6 q7 rm fl us lg se we wh th nx md wr) sz) (wR cA h0 q1 q2 q3 q4 q5 q6 q7 rm fl us lg se we wh (th') nx md wr)) (va_A (wR cA h0 q1 q2 q3 q4 q5 q6 q7 rm fl us lg se we wh th nx md wr) sz)) 0 0 (va_A (wR cA h0 q1 q2 q3 q4 q5 q6 q7 rm fl us lg se we wh th nx md wr) sz) := by
  refine Met.ofW (cc := b_R_state) (maxL := 3) (ret := some .int) (by decide +kernel) rfl ?_
  intro p e s m args below meth c s₁ B hml hv
  obtain ⟨hargs, hsz, hP, hK, hD0, hNw⟩ := hv
  have hx := B.exec
  have hb := B.bytes
  have hr := B.returns
  have hts := atoms_spec (ws := ws_R_state) B.pre
  have hown : s.vm.findClass "FlashStoreModel" = some m.cls := findClass_of_methodNamed B.named
  have hlocks := B.notSynchronized
  subst hsz
  have hD := hD0.self (sz := s.heap.size)
  generalize hAe : va_A (wR cA h0 q1 q2 q3 q4 q5 q6 q7 rm fl us lg se we wh th nx md wr) s.heap.size = A at hD ⊢
  have hA : ∀ q : Nat, s.heap.size ≤ q → A q := fun q h => by rw [← hAe]; exact Or.inr h
  have hS : va_S A s.heap s.heap [] := va_S.rf
  have hP : va_P (dC, dI) vwCl (wR cA h0 q1 q2 q3 q4 q5 q6 q7 rm fl us lg se we wh th nx md wr) s.heap := hP
  have w0 := (hts _ (List.mem_cons_of_mem _ bq_2_192))
  have w1 := (hts _ (List.mem_cons_of_mem _ bq_2_195))
  have hl := lv_entry ([.ref h0, .int a1, .int a2]) (n := 3) (Nat.le_of_ble_eq_true rfl)
  have hen : entryFrame m args 3 = _ := (congrArg (fun z => entryFrame m z 3) hargs).trans (lg_entry_eq m ([.ref h0, .int a1, .int a2]) 3)
  refine W.eq hen ?_
  clear hen
  generalize (lg_sl ([.ref h0, .int a1, .int a2]) ++ List.replicate (3 - (lg_sl ([.ref h0, .int a1, .int a2])).length) Slot.unset).toArray = ls at hl ⊢
  have hl : lv_has ls 3 [(0, .ref h0), (1, .int a1), (2, .int a2)] := hl
  have J31 : ∀ (H : Heap) (locs : List Loc) (ls : Array Slot) (th : Int32) (z0 : Int32), va_P (dC, dI) vwCl (wR cA h0 q1 q2 q3 q4 q5 q6 q7 rm fl us lg se we wh th nx md wr) H → va_D A (wR cA h0 q1 q2 q3 q4 q5 q6 q7 rm fl us lg se we wh th nx md wr) → va_S A s.heap H locs → lv_has ls 3 [] → f_R_state_J31 us th z0 = some (r, th') → W p l e (headSpec ws_R_state rm_R_state).room s m args below meth c H locs 0 0 (MQ below (va_Qi (S := Unit) (fun z _ => r = z) (fun _ t => va_P (dC, dI) vwCl (wR cA h0 q1 q2 q3 q4 q5 q6 q7 rm fl us lg se we wh (th') nx md wr) t.heap ∧ va_D A (wR cA h0 q1 q2 q3 q4 q5 q6 q7 rm fl us lg se we wh (th') nx md wr)) A) args s 0 0 A) (F0 m 31 ls [.int z0]) := by
    intro H locs ls th z0 hP hD hS hl hF
    have hF : (some (z0, th)) = some (r, th') := hF
    cases hF
    exact W.iret hx hb hr (fun t ht hW => ⟨⟨_, (), rfl, rfl, by rw [ht]; exact hP, hD⟩, hS.F ht⟩) hS.2.2 d_R_state_31
  have hF : ((f_R_isPage a1 a2).bind fun r7 => if r7 = 0 then ((f_R_fail (0 : Int32) (1 : Int32)).bind fun (r28, th28) => f_R_state_J31 us th28 r28) else (if (((4 : Int32) * a1) + a2) < 0 ∨ 16 ≤ (((4 : Int32) * a1) + a2).toNatClampNeg then none else f_R_state_J31 us (0 : Int32) (us (((4 : Int32) * a1) + a2).toNatClampNeg))) = some (r, th') := hF
  refine lv_aload_n hx hb d_R_state_0 rfl (lv_at hl 0 rfl) ?_
  refine lv_iconst (v := (0 : Int32)) hx hb d_R_state_1 (by decide) ?_
  refine va_put (D := (dC, dI)) (ci := 2) (v := .int (0 : Int32)) (ty := .int) (C := "FlashStoreModel") (T := TR) (N := 11) hx hb hts inTR tyTR tyTR_ok nmTR hown hK hP hD hS 0 rfl rfl 0 (by decide) w0 (fun _ h9 => h9) rfl (by decide +kernel) rfl rfl (Nat.le_of_ble_eq_true rfl) d_R_state_2 (fun H locs hP hD hS => ?_)
  have hP : va_P (dC, dI) vwCl (wR cA h0 q1 q2 q3 q4 q5 q6 q7 rm fl us lg se we wh (0 : Int32) nx md wr) H := hP
  have hD : va_D A (wR cA h0 q1 q2 q3 q4 q5 q6 q7 rm fl us lg se we wh (0 : Int32) nx md wr) := hD
  refine lv_iload_n hx hb d_R_state_5 rfl (lv_at hl 1 rfl) ?_
  refine lv_iload_n hx hb d_R_state_6 rfl (lv_at hl 2 rfl) ?_
  obtain ⟨r7, hc7, hF⟩ := tx_b hF
  refine vp_callSi (W.runS (As := [.int a1, .int a2]) (rest := []) ⟨hx, hb, hml, hown, hts⟩ (c_R_isPage l a1 a2 r7 hc7) (va_cwS 2 hts (tg_S bq_3_92 bq_3_93 bq_1_4 bq_3_94) rfl rfl rfl (by decide +kernel) ⟨Nat.le_of_ble_eq_true rfl, Nat.le_of_ble_eq_true rfl⟩) ⟨tx_bl0, tx_pre0⟩ rfl rfl hl.1 rfl (lv_room (Nat.le_of_ble_eq_true rfl)) d_R_state_7 ⟨Nat.zero_le _, Nat.zero_le _⟩) (fun zz hz => ?_)
  subst hz
  refine lv_if_eq hx hb d_R_state_10 (tgt := 26) (by decide) (fun h10 => ?_) (fun h10 => ?_)
  · have hF := tx_t h10 hF
    refine lv_aload_n hx hb d_R_state_26 rfl (lv_at hl 0 rfl) ?_
    refine lv_iconst (v := (1 : Int32)) hx hb d_R_state_27 (by decide) ?_
    obtain ⟨⟨r28, th28⟩, hc28, hF⟩ := tx_b hF
    try dsimp only at hF
    have hPc := hP.sub (ws' := (wR cA h0 q1 q2 q3 q4 q5 q6 q7 rm fl us lg se we wh (0 : Int32) nx md wr)) [0, 1, 2, 3, 4, 5, 6, 7] rfl
    have hDc := hD.sub (ws' := (wR cA h0 q1 q2 q3 q4 q5 q6 q7 rm fl us lg se we wh (0 : Int32) nx md wr)) [0, 1, 2, 3, 4, 5, 6, 7] (by decide) rfl
    have hFc := va_free (wc := (wR cA h0 q1 q2 q3 q4 q5 q6 q7 rm fl us lg se we wh (0 : Int32) nx md wr)) hD hS hA [0, 1, 2, 3, 4, 5, 6, 7] rfl
    refine va_calli (va_runV (As := [.int (1 : Int32)]) (rest := []) ⟨hx, hb, hml, hown, hts⟩ (c_R_fail l dC dI cA h0 q1 q2 q3 q4 q5 q6 q7 H.size rm fl us lg se we wh (0 : Int32) nx md wr (1 : Int32) r28 th28 hc28) (cwV 1 hts (tg_V bq_2_238 bq_3_0 bq_s_17 bq_1_4 bq_3_1) rfl rfl rfl (by decide +kernel) ⟨Nat.le_of_ble_eq_true rfl, Nat.le_of_ble_eq_true rfl⟩) ⟨tx_blW, (va_recv (ci := 2) (q0 := 0) hK hP rfl rfl), tx_preW hPc hDc hK hNw⟩ rfl rfl hl.1 rfl (lv_room (Nat.le_of_ble_eq_true rfl)) d_R_state_28 ⟨Nat.zero_le _, Nat.zero_le _⟩) hS (fun q _ h => hFc q h) hFc (fun zz _u t H locs ht hvm hw hB hz1 hk1 hS => ?_)
    subst hw
    obtain ⟨hP1, hD1⟩ := hB
    rw [ht] at hP1
    obtain ⟨hP2, hD2⟩ := va_join (wr := []) (w1 := (wR cA h0 q1 q2 q3 q4 q5 q6 q7 rm fl us lg se we wh th28 nx md wr)) hP hD [0, 1, 2, 3, 4, 5, 6, 7] [] rfl rfl (by decide) (by decide) hk1 hFc hP1 hD1
    have hP := hP2.sub (ws' := (wR cA h0 q1 q2 q3 q4 q5 q6 q7 rm fl us lg se we wh th28 nx md wr)) [0, 1, 2, 3, 4, 5, 6, 7] rfl
    have hD := hD2.sub (ws' := (wR cA h0 q1 q2 q3 q4 q5 q6 q7 rm fl us lg se we wh th28 nx md wr)) [0, 1, 2, 3, 4, 5, 6, 7] (by decide) rfl
    exact J31 _ _ _ th28 r28 hP hD hS (lv_sub hl [] rfl) hF
  · have hF := tx_f h10 hF
    refine lv_aload_n hx hb d_R_state_13 rfl (lv_at hl 0 rfl) ?_
    refine va_get (D := (dC, dI)) (ci := 2) (v := .ref q3) (C := "FlashStoreModel") (T := TR) (N := 11) hx hb hts inTR hown hK hP 0 rfl rfl 3 (by decide) w1 (fun _ h9 => h9) rfl d_R_state_14 ?_
    refine lv_iconst (v := (4 : Int32)) hx hb d_R_state_17 (by decide) ?_
    refine lv_iload_n hx hb d_R_state_18 rfl (lv_at hl 1 rfl) ?_
    refine lv_imul hx hb d_R_state_19 ?_
    refine lv_iload_n hx hb d_R_state_20 rfl (lv_at hl 2 rfl) ?_
    refine lv_iadd hx hb d_R_state_21 ?_
    obtain ⟨hi22, hF⟩ := tx_g hF
    refine va_iald hx hb hK hP 3 0 rfl rfl hi22 d_R_state_22 ?_
    refine lv_goto hx hb d_R_state_23 (tgt := 31) (by decide) ?_
    exact J31 _ _ _ (0 : Int32) (us (((4 : Int32) * a1) + a2).toNatClampNeg) hP hD hS (lv_sub hl [] rfl) hF
abbrev rm_R_wear : Room := { frames := 1, cells := 0, slots := 0, locals := 21 }
set_option maxHeartbeats 4000000 in
set_option maxRecDepth 100000 in
theorem c_R_wear (l : Launch) (dC : Nat → ClassId) (dI : Nat → Nat → Nat) (cA : ClassId) (h0 q1 q2 q3 q4 q5 q6 q7 sz : Nat) (rm fl us lg se we wh : Nat → Int32) (th nx md wr : Int32) (a1 : Int32) (r : Int32) (th' : Int32) (hF : f_R_wear we th a1 = some (r, th')) : Met l y_R_wear ws_R_wear rm_R_wear (tx_PW [.ref h0, .int a1] (dC, dI) [(cA, .int)] (wR cA h0 q1 q2 q3 q4 q5 q6 q7 rm fl us lg se we wh th nx md wr) sz) (va_Qi (S := Unit) (fun z _ => r = z) (fun _ t => va_P (dC, dI) vwCl (wR cA h0 q1 q2 q3 q4 q5 q6 q7 rm fl us lg se we wh (th') nx md wr) t.heap ∧ va_D (va_A (wR cA h0 q1 q2 q3 q4 q5 q6 q7 rm fl us lg se we wh th nx md wr) sz) (wR cA h0 q1 q2 q3 q4 q5 q6 q7 rm fl us lg se we wh (th') nx md wr)) (va_A (wR cA h0 q1 q2 q3 q4 q5 q6 q7 rm fl us lg se we wh th nx md wr) sz)) 0 0 (va_A (wR cA h0 q1 q2 q3 q4 q5 q6 q7 rm fl us lg se we wh th nx md wr) sz) := by
  refine Met.ofW (cc := b_R_wear) (maxL := 2) (ret := some .int) (by decide +kernel) rfl ?_
  intro p e s m args below meth c s₁ B hml hv
  obtain ⟨hargs, hsz, hP, hK, hD0, hNw⟩ := hv
  have hx := B.exec
  have hb := B.bytes
  have hr := B.returns
  have hts := atoms_spec (ws := ws_R_wear) B.pre
  have hown : s.vm.findClass "FlashStoreModel" = some m.cls := findClass_of_methodNamed B.named
  have hlocks := B.notSynchronized
  subst hsz
  have hD := hD0.self (sz := s.heap.size)
  generalize hAe : va_A (wR cA h0 q1 q2 q3 q4 q5 q6 q7 rm fl us lg se we wh th nx md wr) s.heap.size = A at hD ⊢
  have hA : ∀ q : Nat, s.heap.size ≤ q → A q := fun q h => by rw [← hAe]; exact Or.inr h
  have hS : va_S A s.heap s.heap [] := va_S.rf
  have hP : va_P (dC, dI) vwCl (wR cA h0 q1 q2 q3 q4 q5 q6 q7 rm fl us lg se we wh th nx md wr) s.heap := hP
  have w0 := (hts _ (List.mem_cons_of_mem _ bq_2_192))
  have w1 := (hts _ (List.mem_cons_of_mem _ bq_2_198))
  have hl := lv_entry ([.ref h0, .int a1]) (n := 2) (Nat.le_of_ble_eq_true rfl)
  have hen : entryFrame m args 2 = _ := (congrArg (fun z => entryFrame m z 2) hargs).trans (lg_entry_eq m ([.ref h0, .int a1]) 2)
  refine W.eq hen ?_
  clear hen
  generalize (lg_sl ([.ref h0, .int a1]) ++ List.replicate (2 - (lg_sl ([.ref h0, .int a1])).length) Slot.unset).toArray = ls at hl ⊢
  have hl : lv_has ls 2 [(0, .ref h0), (1, .int a1)] := hl
  have J27 : ∀ (H : Heap) (locs : List Loc) (ls : Array Slot) (th : Int32) (z0 : Int32), va_P (dC, dI) vwCl (wR cA h0 q1 q2 q3 q4 q5 q6 q7 rm fl us lg se we wh th nx md wr) H → va_D A (wR cA h0 q1 q2 q3 q4 q5 q6 q7 rm fl us lg se we wh th nx md wr) → va_S A s.heap H locs → lv_has ls 2 [] → f_R_wear_J27 we th z0 = some (r, th') → W p l e (headSpec ws_R_wear rm_R_wear).room s m args below meth c H locs 0 0 (MQ below (va_Qi (S := Unit) (fun z _ => r = z) (fun _ t => va_P (dC, dI) vwCl (wR cA h0 q1 q2 q3 q4 q5 q6 q7 rm fl us lg se we wh (th') nx md wr) t.heap ∧ va_D A (wR cA h0 q1 q2 q3 q4 q5 q6 q7 rm fl us lg se we wh (th') nx md wr)) A) args s 0 0 A) (F0 m 27 ls [.int z0]) := by
    intro H locs ls th z0 hP hD hS hl hF
    have hF : (some (z0, th)) = some (r, th') := hF
    cases hF
    exact W.iret hx hb hr (fun t ht hW => ⟨⟨_, (), rfl, rfl, by rw [ht]; exact hP, hD⟩, hS.F ht⟩) hS.2.2 d_R_wear_27
  have hF : ((f_R_out a1 (4 : Int32)).bind fun r7 => if r7 = 0 then (if a1 < 0 ∨ 4 ≤ a1.toNatClampNeg then none else f_R_wear_J27 we (0 : Int32) (we a1.toNatClampNeg)) else ((f_R_fail (0 : Int32) (1 : Int32)).bind fun (r15, th15) => f_R_wear_J27 we th15 r15)) = some (r, th') := hF
  refine lv_aload_n hx hb d_R_wear_0 rfl (lv_at hl 0 rfl) ?_
  refine lv_iconst (v := (0 : Int32)) hx hb d_R_wear_1 (by decide) ?_
  refine va_put (D := (dC, dI)) (ci := 2) (v := .int (0 : Int32)) (ty := .int) (C := "FlashStoreModel") (T := TR) (N := 11) hx hb hts inTR tyTR tyTR_ok nmTR hown hK hP hD hS 0 rfl rfl 0 (by decide) w0 (fun _ h9 => h9) rfl (by decide +kernel) rfl rfl (Nat.le_of_ble_eq_true rfl) d_R_wear_2 (fun H locs hP hD hS => ?_)
  have hP : va_P (dC, dI) vwCl (wR cA h0 q1 q2 q3 q4 q5 q6 q7 rm fl us lg se we wh (0 : Int32) nx md wr) H := hP
  have hD : va_D A (wR cA h0 q1 q2 q3 q4 q5 q6 q7 rm fl us lg se we wh (0 : Int32) nx md wr) := hD
  refine lv_iload_n hx hb d_R_wear_5 rfl (lv_at hl 1 rfl) ?_
  refine lv_iconst (v := (4 : Int32)) hx hb d_R_wear_6 (by decide) ?_
  obtain ⟨r7, hc7, hF⟩ := tx_b hF
  refine vp_callSi (W.runS (As := [.int a1, .int (4 : Int32)]) (rest := []) ⟨hx, hb, hml, hown, hts⟩ (c_R_out l a1 (4 : Int32) r7 hc7) (va_cwS 2 hts (tg_S bq_2_235 bq_2_236 bq_1_4 bq_2_237) rfl rfl rfl (by decide +kernel) ⟨Nat.le_of_ble_eq_true rfl, Nat.le_of_ble_eq_true rfl⟩) ⟨tx_bl0, tx_pre0⟩ rfl rfl hl.1 rfl (lv_room (Nat.le_of_ble_eq_true rfl)) d_R_wear_7 ⟨Nat.zero_le _, Nat.zero_le _⟩) (fun zz hz => ?_)
  subst hz
  refine lv_if_eq hx hb d_R_wear_10 (tgt := 21) (by decide) (fun h10 => ?_) (fun h10 => ?_)
  · have hF := tx_t h10 hF
    refine lv_aload_n hx hb d_R_wear_21 rfl (lv_at hl 0 rfl) ?_
    refine va_get (D := (dC, dI)) (ci := 2) (v := .ref q6) (C := "FlashStoreModel") (T := TR) (N := 11) hx hb hts inTR hown hK hP 0 rfl rfl 6 (by decide) w1 (fun _ h9 => h9) rfl d_R_wear_22 ?_
    refine lv_iload_n hx hb d_R_wear_25 rfl (lv_at hl 1 rfl) ?_
    obtain ⟨hi26, hF⟩ := tx_g hF
    refine va_iald hx hb hK hP 6 0 rfl rfl hi26 d_R_wear_26 ?_
    exact J27 _ _ _ (0 : Int32) (we a1.toNatClampNeg) hP hD hS (lv_sub hl [] rfl) hF
  · have hF := tx_f h10 hF
    refine lv_aload_n hx hb d_R_wear_13 rfl (lv_at hl 0 rfl) ?_
    refine lv_iconst (v := (1 : Int32)) hx hb d_R_wear_14 (by decide) ?_
    obtain ⟨⟨r15, th15⟩, hc15, hF⟩ := tx_b hF
    try dsimp only at hF
    have hPc := hP.sub (ws' := (wR cA h0 q1 q2 q3 q4 q5 q6 q7 rm fl us lg se we wh (0 : Int32) nx md wr)) [0, 1, 2, 3, 4, 5, 6, 7] rfl
    have hDc := hD.sub (ws' := (wR cA h0 q1 q2 q3 q4 q5 q6 q7 rm fl us lg se we wh (0 : Int32) nx md wr)) [0, 1, 2, 3, 4, 5, 6, 7] (by decide) rfl
    have hFc := va_free (wc := (wR cA h0 q1 q2 q3 q4 q5 q6 q7 rm fl us lg se we wh (0 : Int32) nx md wr)) hD hS hA [0, 1, 2, 3, 4, 5, 6, 7] rfl
    refine va_calli (va_runV (As := [.int (1 : Int32)]) (rest := []) ⟨hx, hb, hml, hown, hts⟩ (c_R_fail l dC dI cA h0 q1 q2 q3 q4 q5 q6 q7 H.size rm fl us lg se we wh (0 : Int32) nx md wr (1 : Int32) r15 th15 hc15) (cwV 1 hts (tg_V bq_2_238 bq_3_0 bq_s_17 bq_1_4 bq_3_1) rfl rfl rfl (by decide +kernel) ⟨Nat.le_of_ble_eq_true rfl, Nat.le_of_ble_eq_true rfl⟩) ⟨tx_blW, (va_recv (ci := 2) (q0 := 0) hK hP rfl rfl), tx_preW hPc hDc hK hNw⟩ rfl rfl hl.1 rfl (lv_room (Nat.le_of_ble_eq_true rfl)) d_R_wear_15 ⟨Nat.zero_le _, Nat.zero_le _⟩) hS (fun q _ h => hFc q h) hFc (fun zz _u t H locs ht hvm hw hB hz1 hk1 hS => ?_)
    subst hw
    obtain ⟨hP1, hD1⟩ := hB
    rw [ht] at hP1
    obtain ⟨hP2, hD2⟩ := va_join (wr := []) (w1 := (wR cA h0 q1 q2 q3 q4 q5 q6 q7 rm fl us lg se we wh th15 nx md wr)) hP hD [0, 1, 2, 3, 4, 5, 6, 7] [] rfl rfl (by decide) (by decide) hk1 hFc hP1 hD1
    have hP := hP2.sub (ws' := (wR cA h0 q1 q2 q3 q4 q5 q6 q7 rm fl us lg se we wh th15 nx md wr)) [0, 1, 2, 3, 4, 5, 6, 7] rfl
    have hD := hD2.sub (ws' := (wR cA h0 q1 q2 q3 q4 q5 q6 q7 rm fl us lg se we wh th15 nx md wr)) [0, 1, 2, 3, 4, 5, 6, 7] (by decide) rfl
    refine lv_goto hx hb d_R_wear_18 (tgt := 27) (by decide) ?_
    exact J27 _ _ _ th15 r15 hP hD hS (lv_sub hl [] rfl) hF
abbrev rm_R_serial : Room := { frames := 0, cells := 0, slots := 0, locals := 0 }
set_option maxHeartbeats 4000000 in
set_option maxRecDepth 100000 in
theorem c_R_serial (l : Launch) (dC : Nat → ClassId) (dI : Nat → Nat → Nat) (cA : ClassId) (h0 q1 q2 q3 q4 q5 q6 q7 sz : Nat) (rm fl us lg se we wh : Nat → Int32) (th nx md wr : Int32)  (r : Int32) (th' : Int32) (hF : f_R_serial th nx = some (r, th')) : Met l y_R_serial ws_R_serial rm_R_serial (tx_PW [.ref h0] (dC, dI) [(cA, .int)] (wR cA h0 q1 q2 q3 q4 q5 q6 q7 rm fl us lg se we wh th nx md wr) sz) (va_Qi (S := Unit) (fun z _ => r = z) (fun _ t => va_P (dC, dI) vwCl (wR cA h0 q1 q2 q3 q4 q5 q6 q7 rm fl us lg se we wh (th') nx md wr) t.heap ∧ va_D (va_A (wR cA h0 q1 q2 q3 q4 q5 q6 q7 rm fl us lg se we wh th nx md wr) sz) (wR cA h0 q1 q2 q3 q4 q5 q6 q7 rm fl us lg se we wh (th') nx md wr)) (va_A (wR cA h0 q1 q2 q3 q4 q5 q6 q7 rm fl us lg se we wh th nx md wr) sz)) 0 0 (va_A (wR cA h0 q1 q2 q3 q4 q5 q6 q7 rm fl us lg se we wh th nx md wr) sz) := by
  refine Met.ofW (cc := b_R_serial) (maxL := 1) (ret := some .int) (by decide +kernel) rfl ?_
  intro p e s m args below meth c s₁ B hml hv
  obtain ⟨hargs, hsz, hP, hK, hD0, hNw⟩ := hv
  have hx := B.exec
  have hb := B.bytes
  have hr := B.returns
  have hts := atoms_spec (ws := ws_R_serial) B.pre
  have hown : s.vm.findClass "FlashStoreModel" = some m.cls := findClass_of_methodNamed B.named
  have hlocks := B.notSynchronized
  subst hsz
  have hD := hD0.self (sz := s.heap.size)
  generalize hAe : va_A (wR cA h0 q1 q2 q3 q4 q5 q6 q7 rm fl us lg se we wh th nx md wr) s.heap.size = A at hD ⊢
  have hA : ∀ q : Nat, s.heap.size ≤ q → A q := fun q h => by rw [← hAe]; exact Or.inr h
  have hS : va_S A s.heap s.heap [] := va_S.rf
  have hP : va_P (dC, dI) vwCl (wR cA h0 q1 q2 q3 q4 q5 q6 q7 rm fl us lg se we wh th nx md wr) s.heap := hP
  have w0 := (hts _ (List.mem_cons_of_mem _ bq_2_192))
  have w1 := (hts _ (List.mem_cons_of_mem _ bq_2_200))
  have hl := lv_entry ([.ref h0]) (n := 1) (Nat.le_of_ble_eq_true rfl)
  have hen : entryFrame m args 1 = _ := (congrArg (fun z => entryFrame m z 1) hargs).trans (lg_entry_eq m ([.ref h0]) 1)
  refine W.eq hen ?_
  clear hen
  generalize (lg_sl ([.ref h0]) ++ List.replicate (1 - (lg_sl ([.ref h0])).length) Slot.unset).toArray = ls at hl ⊢
  have hl : lv_has ls 1 [(0, .ref h0)] := hl
  have hF : (some (nx, (0 : Int32))) = some (r, th') := hF
  refine lv_aload_n hx hb d_R_serial_0 rfl (lv_at hl 0 rfl) ?_
  refine lv_iconst (v := (0 : Int32)) hx hb d_R_serial_1 (by decide) ?_
  refine va_put (D := (dC, dI)) (ci := 2) (v := .int (0 : Int32)) (ty := .int) (C := "FlashStoreModel") (T := TR) (N := 11) hx hb hts inTR tyTR tyTR_ok nmTR hown hK hP hD hS 0 rfl rfl 0 (by decide) w0 (fun _ h9 => h9) rfl (by decide +kernel) rfl rfl (Nat.le_of_ble_eq_true rfl) d_R_serial_2 (fun H locs hP hD hS => ?_)
  have hP : va_P (dC, dI) vwCl (wR cA h0 q1 q2 q3 q4 q5 q6 q7 rm fl us lg se we wh (0 : Int32) nx md wr) H := hP
  have hD : va_D A (wR cA h0 q1 q2 q3 q4 q5 q6 q7 rm fl us lg se we wh (0 : Int32) nx md wr) := hD
  refine lv_aload_n hx hb d_R_serial_5 rfl (lv_at hl 0 rfl) ?_
  refine va_get (D := (dC, dI)) (ci := 2) (v := .int nx) (C := "FlashStoreModel") (T := TR) (N := 11) hx hb hts inTR hown hK hP 0 rfl rfl 8 (by decide) w1 (fun _ h9 => h9) rfl d_R_serial_6 ?_
  cases hF
  exact W.iret hx hb hr (fun t ht hW => ⟨⟨_, (), rfl, rfl, by rw [ht]; exact hP, hD⟩, hS.F ht⟩) hS.2.2 d_R_serial_9
