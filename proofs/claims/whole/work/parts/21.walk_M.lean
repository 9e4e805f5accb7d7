abbrev rm_F_placeOf : Room := { frames := 0, cells := 0, slots := 0, locals := 0 }
set_option maxHeartbeats 4000000 in
set_option maxRecDepth 100000 in
theorem c_F_placeOf (l : Launch) (a1 : Int32) (a2 : Int32) (r : Int32)  (hF : f_F_placeOf a1 a2 = some r) : Met l y_F_placeOf ws_F_placeOf rm_F_placeOf (va_Pc [.int a1, .int a2] (fun _ => True)) (vp_Si (fun z => r = z)) 0 0 (fun _ => False) := by
  refine Met.ofW (cc := b_F_placeOf) (maxL := 2) (ret := some .int) (by decide +kernel) rfl ?_
  intro p e s m args below meth c s₁ B hml hv
  obtain ⟨hargs, -⟩ := hv
  have hx := B.exec
  have hb := B.bytes
  have hr := B.returns
  have hts := atoms_spec (ws := ws_F_placeOf) B.pre
  have hown : s.vm.findClass "FlashStore" = some m.cls := findClass_of_methodNamed B.named
  have hlocks := B.notSynchronized
  have hl := lv_entry ([.int a1, .int a2]) (n := 2) (Nat.le_of_ble_eq_true rfl)
  have hen : entryFrame m args 2 = _ := (congrArg (fun z => entryFrame m z 2) hargs).trans (lg_entry_eq m ([.int a1, .int a2]) 2)
  refine W.eq hen ?_
  clear hen
  generalize (lg_sl ([.int a1, .int a2]) ++ List.replicate (2 - (lg_sl ([.int a1, .int a2])).length) Slot.unset).toArray = ls at hl ⊢
  have hl : lv_has ls 2 [(0, .int a1), (1, .int a2)] := hl
  have hF : (some ((a1 * (4 : Int32)) + a2)) = some r := hF
  refine lv_iload_n hx hb d_F_placeOf_0 rfl (lv_at hl 0 rfl) ?_
  refine lv_iconst (v := (4 : Int32)) hx hb d_F_placeOf_1 (by decide) ?_
  refine lv_imul hx hb d_F_placeOf_2 ?_
  refine lv_iload_n hx hb d_F_placeOf_3 rfl (lv_at hl 1 rfl) ?_
  refine lv_iadd hx hb d_F_placeOf_4 ?_
  exact W.iret hx hb hr (fun t ht hW => ⟨_, rfl, (Option.some.inj hF).symm, ht⟩) (fun q h => by cases h) d_F_placeOf_5
abbrev rm_M_wordAt : Room := { frames := 0, cells := 0, slots := 0, locals := 0 }
set_option maxHeartbeats 4000000 in
set_option maxRecDepth 100000 in
theorem c_M_wordAt (l : Launch) (dC : Nat → ClassId) (dI : Nat → Nat → Nat) (cA : ClassId) (q1 q5 q6 : Nat) (wd er : Nat → Int32) (a1 : Int32) (a2 : Int32) (r : Int32)  (hF : f_M_wordAt wd a1 a2 = some r) : Met l y_M_wordAt ws_M_wordAt rm_M_wordAt (tx_PR [.ref q1, .int a1, .int a2] (dC, dI) [(cA, .int)] (wM cA q1 q5 q6 wd er)) (vp_Si (fun z => r = z)) 0 0 (fun _ => False) := by
  refine Met.ofW (cc := b_M_wordAt) (maxL := 3) (ret := some .int) (by decide +kernel) rfl ?_
  intro p e s m args below meth c s₁ B hml hv
  obtain ⟨hargs, hP, hK⟩ := hv
  have hx := B.exec
  have hb := B.bytes
  have hr := B.returns
  have hts := atoms_spec (ws := ws_M_wordAt) B.pre
  have hown : s.vm.findClass "FlashStore$Flash" = some m.cls := findClass_of_methodNamed B.named
  have hlocks := B.notSynchronized
  have w0 := (hts _ (List.mem_cons_of_mem _ bq_1_32))
  have hl := lv_entry ([.ref q1, .int a1, .int a2]) (n := 3) (Nat.le_of_ble_eq_true rfl)
  have hen : entryFrame m args 3 = _ := (congrArg (fun z => entryFrame m z 3) hargs).trans (lg_entry_eq m ([.ref q1, .int a1, .int a2]) 3)
  refine W.eq hen ?_
  clear hen
  generalize (lg_sl ([.ref q1, .int a1, .int a2]) ++ List.replicate (3 - (lg_sl ([.ref q1, .int a1, .int a2])).length) Slot.unset).toArray = ls at hl ⊢
  have hl : lv_has ls 3 [(0, .ref q1), (1, .int a1), (2, .int a2)] := hl
  have hF : (if ((a1 * (5 : Int32)) + a2) < 0 ∨ 80 ≤ ((a1 * (5 : Int32)) + a2).toNatClampNeg then none else some (wd ((a1 * (5 : Int32)) + a2).toNatClampNeg)) = some r := hF
  refine lv_aload_n hx hb d_M_wordAt_0 rfl (lv_at hl 0 rfl) ?_
  refine va_get (D := (dC, dI)) (ci := 0) (v := .ref q5) (C := "FlashStore$Flash") (T := TM) (N := 2) hx hb hts inTM hown hK hP 0 rfl rfl 0 (by decide) w0 (fun _ h9 => h9) rfl d_M_wordAt_1 ?_
  refine lv_iload_n hx hb d_M_wordAt_4 rfl (lv_at hl 1 rfl) ?_
  refine lv_iconst (v := (5 : Int32)) hx hb d_M_wordAt_5 (by decide) ?_
  refine lv_imul hx hb d_M_wordAt_6 ?_
  refine lv_iload_n hx hb d_M_wordAt_7 rfl (lv_at hl 2 rfl) ?_
  refine lv_iadd hx hb d_M_wordAt_8 ?_
  obtain ⟨hi9, hF⟩ := tx_g hF
  refine va_iald hx hb hK hP 1 0 rfl rfl hi9 d_M_wordAt_9 ?_
  exact W.iret hx hb hr (fun t ht hW => ⟨_, rfl, (Option.some.inj hF).symm, ht⟩) (fun q h => by cases h) d_M_wordAt_10
abbrev rm_M_turnOver : Room := { frames := 0, cells := 0, slots := 0, locals := 0 }
set_option maxHeartbeats 4000000 in
set_option maxRecDepth 100000 in
theorem c_M_turnOver (l : Launch) (dC : Nat → ClassId) (dI : Nat → Nat → Nat) (cA : ClassId) (q1 q5 q6 sz : Nat) (wd er : Nat → Int32) (a1 : Int32) (a2 : Int32) (a3 : Int32) (wd' : Nat → Int32) (hF : f_M_turnOver wd a1 a2 a3 = some wd') : Met l y_M_turnOver ws_M_turnOver rm_M_turnOver (tx_PW [.ref q1, .int a1, .int a2, .int a3] (dC, dI) [(cA, .int)] (wM cA q1 q5 q6 wd er) sz) (va_Qv (S := Unit) (fun _ => True) (fun _ t => va_P (dC, dI) vwCl (wM cA q1 q5 q6 (wd') er) t.heap ∧ va_D (va_A (wM cA q1 q5 q6 wd er) sz) (wM cA q1 q5 q6 (wd') er)) (va_A (wM cA q1 q5 q6 wd er) sz)) 0 0 (va_A (wM cA q1 q5 q6 wd er) sz) := by
  refine Met.ofW (cc := b_M_turnOver) (maxL := 4) (ret := none) (by decide +kernel) rfl ?_
  intro p e s m args below meth c s₁ B hml hv
  obtain ⟨hargs, hsz, hP, hK, hD0, hNw⟩ := hv
  have hx := B.exec
  have hb := B.bytes
  have hr := B.returns
  have hts := atoms_spec (ws := ws_M_turnOver) B.pre
  have hown : s.vm.findClass "FlashStore$Flash" = some m.cls := findClass_of_methodNamed B.named
  have hlocks := B.notSynchronized
  subst hsz
  have hD := hD0.self (sz := s.heap.size)
  generalize hAe : va_A (wM cA q1 q5 q6 wd er) s.heap.size = A at hD ⊢
  have hA : ∀ q : Nat, s.heap.size ≤ q → A q := fun q h => by rw [← hAe]; exact Or.inr h
  have hS : va_S A s.heap s.heap [] := va_S.rf
  have hP : va_P (dC, dI) vwCl (wM cA q1 q5 q6 wd er) s.heap := hP
  have w0 := (hts _ (List.mem_cons_of_mem _ bq_1_32))
  have hl := lv_entry ([.ref q1, .int a1, .int a2, .int a3]) (n := 4) (Nat.le_of_ble_eq_true rfl)
  have hen : entryFrame m args 4 = _ := (congrArg (fun z => entryFrame m z 4) hargs).trans (lg_entry_eq m ([.ref q1, .int a1, .int a2, .int a3]) 4)
  refine W.eq hen ?_
  clear hen
  generalize (lg_sl ([.ref q1, .int a1, .int a2, .int a3]) ++ List.replicate (4 - (lg_sl ([.ref q1, .int a1, .int a2, .int a3])).length) Slot.unset).toArray = ls at hl ⊢
  have hl : lv_has ls 4 [(0, .ref q1), (1, .int a1), (2, .int a2), (3, .int a3)] := hl
  have hF : (if ((a1 * (5 : Int32)) + a2) < 0 ∨ 80 ≤ ((a1 * (5 : Int32)) + a2).toNatClampNeg then none else some (upd wd ((a1 * (5 : Int32)) + a2).toNatClampNeg ((wd ((a1 * (5 : Int32)) + a2).toNatClampNeg) ^^^ a3))) = some wd' := hF
  refine lv_aload_n hx hb d_M_turnOver_0 rfl (lv_at hl 0 rfl) ?_
  refine va_get (D := (dC, dI)) (ci := 0) (v := .ref q5) (C := "FlashStore$Flash") (T := TM) (N := 2) hx hb hts inTM hown hK hP 0 rfl rfl 0 (by decide) w0 (fun _ h9 => h9) rfl d_M_turnOver_1 ?_
  refine lv_iload_n hx hb d_M_turnOver_4 rfl (lv_at hl 1 rfl) ?_
  refine lv_iconst (v := (5 : Int32)) hx hb d_M_turnOver_5 (by decide) ?_
  refine lv_imul hx hb d_M_turnOver_6 ?_
  refine lv_iload_n hx hb d_M_turnOver_7 rfl (lv_at hl 2 rfl) ?_
  refine lv_iadd hx hb d_M_turnOver_8 ?_
  refine lv_dup2_11 hx hb d_M_turnOver_9 rfl rfl ?_
  obtain ⟨hi10, hF⟩ := tx_g hF
  refine va_iald hx hb hK hP 1 0 rfl rfl hi10 d_M_turnOver_10 ?_
  refine lv_iload_n hx hb d_M_turnOver_11 rfl (lv_at hl 3 rfl) ?_
  refine lv_ixor hx hb d_M_turnOver_12 ?_
  refine va_iast hx hb hK hP hD hS 1 0 rfl rfl hi10 d_M_turnOver_13 (fun H locs hP hD hS => ?_)
  have hP : va_P (dC, dI) vwCl (wM cA q1 q5 q6 (upd wd ((a1 * (5 : Int32)) + a2).toNatClampNeg ((wd ((a1 * (5 : Int32)) + a2).toNatClampNeg) ^^^ a3)) er) H := hP
  have hD : va_D A (wM cA q1 q5 q6 (upd wd ((a1 * (5 : Int32)) + a2).toNatClampNeg ((wd ((a1 * (5 : Int32)) + a2).toNatClampNeg) ^^^ a3)) er) := hD
  cases hF
  exact W.vret hx hb hr (fun t ht hW => ⟨⟨(), rfl, trivial, by rw [ht]; exact hP, hD⟩, hS.F ht⟩) hS.2.2 d_M_turnOver_14
abbrev rm_M_program : Room := { frames := 2, cells := 0, slots := 0, locals := 43 }
set_option maxHeartbeats 4000000 in
set_option maxRecDepth 100000 in
theorem c_M_program (l : Launch) (dC : Nat → ClassId) (dI : Nat → Nat → Nat) (cA : ClassId) (q1 q5 q6 sz : Nat) (wd er : Nat → Int32) (a1 : Int32) (a2 : Int64) (a3 : Int32) (wd' : Nat → Int32) (hF : f_M_program wd a1 a2 a3 = some wd') : Met l y_M_program ws_M_program rm_M_program (tx_PW [.ref q1, .int a1, .long a2, .int a3] (dC, dI) [(cA, .int)] (wM cA q1 q5 q6 wd er) sz) (va_Qv (S := Unit) (fun _ => True) (fun _ t => va_P (dC, dI) vwCl (wM cA q1 q5 q6 (wd') er) t.heap ∧ va_D (va_A (wM cA q1 q5 q6 wd er) sz) (wM cA q1 q5 q6 (wd') er)) (va_A (wM cA q1 q5 q6 wd er) sz)) 0 0 (va_A (wM cA q1 q5 q6 wd er) sz) := by
  refine Met.ofW (cc := b_M_program) (maxL := 8) (ret := none) (by decide +kernel) rfl ?_
  intro p e s m args below meth c s₁ B hml hv
  obtain ⟨hargs, hsz, hP, hK, hD0, hNw⟩ := hv
  have hx := B.exec
  have hb := B.bytes
  have hr := B.returns
  have hts := atoms_spec (ws := ws_M_program) B.pre
  have hown : s.vm.findClass "FlashStore$Flash" = some m.cls := findClass_of_methodNamed B.named
  have hlocks := B.notSynchronized
  subst hsz
  have hD := hD0.self (sz := s.heap.size)
  generalize hAe : va_A (wM cA q1 q5 q6 wd er) s.heap.size = A at hD ⊢
  have hA : ∀ q : Nat, s.heap.size ≤ q → A q := fun q h => by rw [← hAe]; exact Or.inr h
  have hS : va_S A s.heap s.heap [] := va_S.rf
  have hP : va_P (dC, dI) vwCl (wM cA q1 q5 q6 wd er) s.heap := hP
  have w0 := (hts _ (List.mem_cons_of_mem _ bq_1_32))
  have w1 := hts (.constant "FlashStore$Flash" 27 (65535 : Int32)) (by decide +kernel)
  have hl := lv_entry ([.ref q1, .int a1, .long a2, .int a3]) (n := 8) (Nat.le_of_ble_eq_true rfl)
  have hen : entryFrame m args 8 = _ := (congrArg (fun z => entryFrame m z 8) hargs).trans (lg_entry_eq m ([.ref q1, .int a1, .long a2, .int a3]) 8)
  refine W.eq hen ?_
  clear hen
  generalize (lg_sl ([.ref q1, .int a1, .long a2, .int a3]) ++ List.replicate (8 - (lg_sl ([.ref q1, .int a1, .long a2, .int a3])).length) Slot.unset).toArray = ls at hl ⊢
  have hl : lv_has ls 8 [(0, .ref q1), (1, .int a1), (2, .long a2), (4, .int a3)] := hl
  have LH : ∀ n : Nat, (∀ (H : Heap) (locs : List Loc) (ls : Array Slot) (wd : Nat → Int32) (v2 : Int64) (v4 : Int32) (v5 : Int32) (v6 : Int32), va_P (dC, dI) vwCl (wM cA q1 q5 q6 wd er) H → va_D A (wM cA q1 q5 q6 wd er) → va_S A s.heap H locs → lv_has ls 8 [(0, .ref q1), (2, .long v2), (4, .int v4), (5, .int v5), (6, .int v6)] → f_M_program_H n wd v2 v4 v5 v6 = some wd' → W p l e (headSpec ws_M_program rm_M_program).room s m args below meth c H locs 0 0 (MQ below (va_Qv (S := Unit) (fun _ => True) (fun _ t => va_P (dC, dI) vwCl (wM cA q1 q5 q6 (wd') er) t.heap ∧ va_D A (wM cA q1 q5 q6 (wd') er)) A) args s 0 0 A) (F0 m 8 ls [])) := by
    intro n
    induction n with
    | zero =>
      exact (by intro H locs ls wd v2 v4 v5 v6 hP hD hS hl hF; have hF : (none : Option ((Nat → Int32))) = _ := hF; cases hF)
    | succ n ih =>
      have hrec0 := ih
      intro H locs ls wd v2 v4 v5 v6 hP hD hS hl hF
      have hF : (if (4 : Int32) ≤ v6 then (if (v5 + (4 : Int32)) < 0 ∨ 80 ≤ (v5 + (4 : Int32)).toNatClampNeg then none else (f_C_codewordOf v4).bind fun r63 => some (upd wd (v5 + (4 : Int32)).toNatClampNeg ((wd (v5 + (4 : Int32)).toNatClampNeg) &&& r63))) else (if (v5 + v6) < 0 ∨ 80 ≤ (v5 + v6).toNatClampNeg then none else (f_C_codewordOf ((((v2.toUInt64 >>> ((v6 * (16 : Int32)).toInt64.toUInt64 &&& Int64.toUInt64 63)).toInt64).toInt32) &&& (65535 : Int32))).bind fun r40 => f_M_program_H n (upd wd (v5 + v6).toNatClampNeg ((wd (v5 + v6).toNatClampNeg) &&& r40)) v2 v4 v5 (v6 + (1 : Int32)))) = some wd' := hF
      refine lv_iload hx hb d_M_program_8 (lv_at hl 4 rfl) ?_
      refine lv_iconst (v := (4 : Int32)) hx hb d_M_program_10 (by decide) ?_
      refine lv_icmp_ge hx hb d_M_program_11 (tgt := 51) (by decide) (fun h11 => ?_) (fun h11 => ?_)
      · have hF := tx_t h11 hF
        refine lv_aload_n hx hb d_M_program_51 rfl (lv_at hl 0 rfl) ?_
        refine va_get (D := (dC, dI)) (ci := 0) (v := .ref q5) (C := "FlashStore$Flash") (T := TM) (N := 2) hx hb hts inTM hown hK hP 0 rfl rfl 0 (by decide) w0 (fun _ h9 => h9) rfl d_M_program_52 ?_
        refine lv_iload hx hb d_M_program_55 (lv_at hl 3 rfl) ?_
        refine lv_iconst (v := (4 : Int32)) hx hb d_M_program_57 (by decide) ?_
        refine lv_iadd hx hb d_M_program_58 ?_
        refine lv_dup2_11 hx hb d_M_program_59 rfl rfl ?_
        obtain ⟨hi60, hF⟩ := tx_g hF
        refine va_iald hx hb hK hP 1 0 rfl rfl hi60 d_M_program_60 ?_
        refine lv_iload hx hb d_M_program_61 (lv_at hl 2 rfl) ?_
        obtain ⟨r63, hc63, hF⟩ := tx_b hF
        refine vp_callSi (W.runS (As := [.int v4]) (rest := [.int (wd (v5 + (4 : Int32)).toNatClampNeg), .int (v5 + (4 : Int32)), .ref q5]) ⟨hx, hb, hml, hown, hts⟩ (c_C_codewordOf l v4 r63 hc63) (va_cwS 1 hts (tg_S bq_2_102 bq_1_213 bq_1_9 bq_1_214) rfl rfl rfl (by decide +kernel) ⟨Nat.le_of_ble_eq_true rfl, Nat.le_of_ble_eq_true rfl⟩) ⟨tx_bl0, tx_pre0⟩ rfl rfl hl.1 rfl (lv_room (Nat.le_of_ble_eq_true rfl)) d_M_program_63 ⟨Nat.zero_le _, Nat.zero_le _⟩) (fun zz hz => ?_)
        subst hz
        refine lv_iand hx hb d_M_program_66 ?_
        refine va_iast hx hb hK hP hD hS 1 0 rfl rfl hi60 d_M_program_67 (fun H locs hP hD hS => ?_)
        have hP : va_P (dC, dI) vwCl (wM cA q1 q5 q6 (upd wd (v5 + (4 : Int32)).toNatClampNeg ((wd (v5 + (4 : Int32)).toNatClampNeg) &&& r63)) er) H := hP
        have hD : va_D A (wM cA q1 q5 q6 (upd wd (v5 + (4 : Int32)).toNatClampNeg ((wd (v5 + (4 : Int32)).toNatClampNeg) &&& r63)) er) := hD
        cases hF
        exact W.vret hx hb hr (fun t ht hW => ⟨⟨(), rfl, trivial, by rw [ht]; exact hP, hD⟩, hS.F ht⟩) hS.2.2 d_M_program_68
      · have hF := tx_f h11 hF
        refine lv_lload_n hx hb d_M_program_14 rfl (lv_at hl 1 rfl) ?_
        refine lv_iload hx hb d_M_program_15 (lv_at hl 4 rfl) ?_
        refine lv_bipush (v := (16 : Int32)) hx hb d_M_program_17 (by decide) ?_
        refine lv_imul hx hb d_M_program_19 ?_
        refine lv_lushr hx hb d_M_program_20 rfl ?_
        refine lv_l2i hx hb d_M_program_21 rfl ?_
        refine lv_ldc hx hb hown w1 d_M_program_22 ?_
        refine lv_iand hx hb d_M_program_24 ?_
        refine lv_istore hx hb d_M_program_25 hl (by decide) rfl (fun ls hl => ?_)
        have hl : lv_has ls 8 [(7, .int ((((v2.toUInt64 >>> ((v6 * (16 : Int32)).toInt64.toUInt64 &&& Int64.toUInt64 63)).toInt64).toInt32) &&& (65535 : Int32))), (0, .ref q1), (2, .long v2), (4, .int v4), (5, .int v5), (6, .int v6)] := hl
        refine lv_aload_n hx hb d_M_program_27 rfl (lv_at hl 1 rfl) ?_
        refine va_get (D := (dC, dI)) (ci := 0) (v := .ref q5) (C := "FlashStore$Flash") (T := TM) (N := 2) hx hb hts inTM hown hK hP 0 rfl rfl 0 (by decide) w0 (fun _ h9 => h9) rfl d_M_program_28 ?_
        refine lv_iload hx hb d_M_program_31 (lv_at hl 4 rfl) ?_
        refine lv_iload hx hb d_M_program_33 (lv_at hl 5 rfl) ?_
        refine lv_iadd hx hb d_M_program_35 ?_
        refine lv_dup2_11 hx hb d_M_program_36 rfl rfl ?_
        obtain ⟨hi37, hF⟩ := tx_g hF
        refine va_iald hx hb hK hP 1 0 rfl rfl hi37 d_M_program_37 ?_
        refine lv_iload hx hb d_M_program_38 (lv_at hl 0 rfl) ?_
        obtain ⟨r40, hc40, hF⟩ := tx_b hF
        refine vp_callSi (W.runS (As := [.int ((((v2.toUInt64 >>> ((v6 * (16 : Int32)).toInt64.toUInt64 &&& Int64.toUInt64 63)).toInt64).toInt32) &&& (65535 : Int32))]) (rest := [.int (wd (v5 + v6).toNatClampNeg), .int (v5 + v6), .ref q5]) ⟨hx, hb, hml, hown, hts⟩ (c_C_codewordOf l ((((v2.toUInt64 >>> ((v6 * (16 : Int32)).toInt64.toUInt64 &&& Int64.toUInt64 63)).toInt64).toInt32) &&& (65535 : Int32)) r40 hc40) (va_cwS 1 hts (tg_S bq_2_102 bq_1_213 bq_1_9 bq_1_214) rfl rfl rfl (by decide +kernel) ⟨Nat.le_of_ble_eq_true rfl, Nat.le_of_ble_eq_true rfl⟩) ⟨tx_bl0, tx_pre0⟩ rfl rfl hl.1 rfl (lv_room (Nat.le_of_ble_eq_true rfl)) d_M_program_40 ⟨Nat.zero_le _, Nat.zero_le _⟩) (fun zz hz => ?_)
        subst hz
        refine lv_iand hx hb d_M_program_43 ?_
        refine va_iast hx hb hK hP hD hS 1 0 rfl rfl hi37 d_M_program_44 (fun H locs hP hD hS => ?_)
        have hP : va_P (dC, dI) vwCl (wM cA q1 q5 q6 (upd wd (v5 + v6).toNatClampNeg ((wd (v5 + v6).toNatClampNeg) &&& r40)) er) H := hP
        have hD : va_D A (wM cA q1 q5 q6 (upd wd (v5 + v6).toNatClampNeg ((wd (v5 + v6).toNatClampNeg) &&& r40)) er) := hD
        refine lv_iinc (k := 5) (v := (v6 + (1 : Int32))) hx hb d_M_program_45 hl rfl rfl (by decide) rfl (fun ls hl => ?_)
        have hl : lv_has ls 8 [(6, .int (v6 + (1 : Int32))), (7, .int ((((v2.toUInt64 >>> ((v6 * (16 : Int32)).toInt64.toUInt64 &&& Int64.toUInt64 63)).toInt64).toInt32) &&& (65535 : Int32))), (0, .ref q1), (2, .long v2), (4, .int v4), (5, .int v5)] := hl
        refine lv_goto hx hb d_M_program_48 (tgt := 8) (by decide) ?_
        exact hrec0 _ _ _ (upd wd (v5 + v6).toNatClampNeg ((wd (v5 + v6).toNatClampNeg) &&& r40)) v2 v4 v5 (v6 + (1 : Int32)) hP hD hS (lv_sub hl [2, 3, 4, 5, 0] rfl) hF
  obtain hrec0 := LH 100
  have hF : (f_M_program_H 100 wd a2 a3 (a1 * (5 : Int32)) (0 : Int32)) = some wd' := hF
  refine lv_iload_n hx hb d_M_program_0 rfl (lv_at hl 1 rfl) ?_
  refine lv_iconst (v := (5 : Int32)) hx hb d_M_program_1 (by decide) ?_
  refine lv_imul hx hb d_M_program_2 ?_
  refine lv_istore hx hb d_M_program_3 hl (by decide) rfl (fun ls hl => ?_)
  have hl : lv_has ls 8 [(5, .int (a1 * (5 : Int32))), (0, .ref q1), (1, .int a1), (2, .long a2), (4, .int a3)] := hl
  refine lv_iconst (v := (0 : Int32)) hx hb d_M_program_5 (by decide) ?_
  refine lv_istore hx hb d_M_program_6 hl (by decide) rfl (fun ls hl => ?_)
  have hl : lv_has ls 8 [(6, .int (0 : Int32)), (5, .int (a1 * (5 : Int32))), (0, .ref q1), (1, .int a1), (2, .long a2), (4, .int a3)] := hl
  exact hrec0 _ _ _ wd a2 a3 (a1 * (5 : Int32)) (0 : Int32) hP hD hS (lv_sub hl [2, 4, 5, 1, 0] rfl) hF
abbrev rm_M_erase : Room := { frames := 1, cells := 0, slots := 0, locals := 21 }
set_option maxHeartbeats 4000000 in
set_option maxRecDepth 100000 in
theorem c_M_erase (l : Launch) (dC : Nat → ClassId) (dI : Nat → Nat → Nat) (cA : ClassId) (q1 q5 q6 sz : Nat) (wd er : Nat → Int32) (a1 : Int32) (wd' : Nat → Int32) (er' : Nat → Int32) (hF : f_M_erase wd er a1 = some (wd', er')) : Met l y_M_erase ws_M_erase rm_M_erase (tx_PW [.ref q1, .int a1] (dC, dI) [(cA, .int)] (wM cA q1 q5 q6 wd er) sz) (va_Qv (S := Unit) (fun _ => True) (fun _ t => va_P (dC, dI) vwCl (wM cA q1 q5 q6 (wd') (er')) t.heap ∧ va_D (va_A (wM cA q1 q5 q6 wd er) sz) (wM cA q1 q5 q6 (wd') (er'))) (va_A (wM cA q1 q5 q6 wd er) sz)) 0 0 (va_A (wM cA q1 q5 q6 wd er) sz) := by
  refine Met.ofW (cc := b_M_erase) (maxL := 4) (ret := none) (by decide +kernel) rfl ?_
  intro p e s m args below meth c s₁ B hml hv
  obtain ⟨hargs, hsz, hP, hK, hD0, hNw⟩ := hv
  have hx := B.exec
  have hb := B.bytes
  have hr := B.returns
  have hts := atoms_spec (ws := ws_M_erase) B.pre
  have hown : s.vm.findClass "FlashStore$Flash" = some m.cls := findClass_of_methodNamed B.named
  have hlocks := B.notSynchronized
  subst hsz
  have hD := hD0.self (sz := s.heap.size)
  generalize hAe : va_A (wM cA q1 q5 q6 wd er) s.heap.size = A at hD ⊢
  have hA : ∀ q : Nat, s.heap.size ≤ q → A q := fun q h => by rw [← hAe]; exact Or.inr h
  have hS : va_S A s.heap s.heap [] := va_S.rf
  have hP : va_P (dC, dI) vwCl (wM cA q1 q5 q6 wd er) s.heap := hP
  have w0 := (hts _ (List.mem_cons_of_mem _ bq_1_33))
  have w1 := (hts _ (List.mem_cons_of_mem _ bq_1_32))
  have w2 := hts (.constant "FlashStore$Flash" 20 (2147483647 : Int32)) (by decide +kernel)
  have hl := lv_entry ([.ref q1, .int a1]) (n := 4) (Nat.le_of_ble_eq_true rfl)
  have hen : entryFrame m args 4 = _ := (congrArg (fun z => entryFrame m z 4) hargs).trans (lg_entry_eq m ([.ref q1, .int a1]) 4)
  refine W.eq hen ?_
  clear hen
  generalize (lg_sl ([.ref q1, .int a1]) ++ List.replicate (4 - (lg_sl ([.ref q1, .int a1])).length) Slot.unset).toArray = ls at hl ⊢
  have hl : lv_has ls 4 [(0, .ref q1), (1, .int a1)] := hl
  have LH : ∀ n : Nat, (∀ (H : Heap) (locs : List Loc) (ls : Array Slot) (wd : Nat → Int32) (er : Nat → Int32) (v1 : Int32) (v2 : Int32) (v3 : Int32), va_P (dC, dI) vwCl (wM cA q1 q5 q6 wd er) H → va_D A (wM cA q1 q5 q6 wd er) → va_S A s.heap H locs → lv_has ls 4 [(0, .ref q1), (1, .int v1), (2, .int v2), (3, .int v3)] → f_M_erase_H n wd er v1 v2 v3 = some (wd', er') → W p l e (headSpec ws_M_erase rm_M_erase).room s m args below meth c H locs 0 0 (MQ below (va_Qv (S := Unit) (fun _ => True) (fun _ t => va_P (dC, dI) vwCl (wM cA q1 q5 q6 (wd') (er')) t.heap ∧ va_D A (wM cA q1 q5 q6 (wd') (er'))) A) args s 0 0 A) (F0 m 10 ls [])) := by
    intro n
    induction n with
    | zero =>
      exact (by intro H locs ls wd er v1 v2 v3 hP hD hS hl hF; have hF : (none : Option ((Nat → Int32) × (Nat → Int32))) = _ := hF; cases hF)
    | succ n ih =>
      have hrec0 := ih
      intro H locs ls wd er v1 v2 v3 hP hD hS hl hF
      have hF : (if (20 : Int32) ≤ v3 then (if v1 < 0 ∨ 4 ≤ v1.toNatClampNeg then none else some (wd, (upd er v1.toNatClampNeg ((er v1.toNatClampNeg) + (1 : Int32))))) else (if (v2 + v3) < 0 ∨ 80 ≤ (v2 + v3).toNatClampNeg then none else f_M_erase_H n (upd wd (v2 + v3).toNatClampNeg (2147483647 : Int32)) er v1 v2 (v3 + (1 : Int32)))) = some (wd', er') := hF
      refine lv_iload_n hx hb d_M_erase_10 rfl (lv_at hl 3 rfl) ?_
      refine lv_bipush (v := (20 : Int32)) hx hb d_M_erase_11 (by decide) ?_
      refine lv_icmp_ge hx hb d_M_erase_13 (tgt := 32) (by decide) (fun h13 => ?_) (fun h13 => ?_)
      · have hF := tx_t h13 hF
        refine lv_aload_n hx hb d_M_erase_32 rfl (lv_at hl 0 rfl) ?_
        refine va_get (D := (dC, dI)) (ci := 0) (v := .ref q6) (C := "FlashStore$Flash") (T := TM) (N := 2) hx hb hts inTM hown hK hP 0 rfl rfl 1 (by decide) w0 (fun _ h9 => h9) rfl d_M_erase_33 ?_
        refine lv_iload_n hx hb d_M_erase_36 rfl (lv_at hl 1 rfl) ?_
        refine lv_dup2_11 hx hb d_M_erase_37 rfl rfl ?_
        obtain ⟨hi38, hF⟩ := tx_g hF
        refine va_iald hx hb hK hP 2 0 rfl rfl hi38 d_M_erase_38 ?_
        refine lv_iconst (v := (1 : Int32)) hx hb d_M_erase_39 (by decide) ?_
        refine lv_iadd hx hb d_M_erase_40 ?_
        refine va_iast hx hb hK hP hD hS 2 0 rfl rfl hi38 d_M_erase_41 (fun H locs hP hD hS => ?_)
        have hP : va_P (dC, dI) vwCl (wM cA q1 q5 q6 wd (upd er v1.toNatClampNeg ((er v1.toNatClampNeg) + (1 : Int32)))) H := hP
        have hD : va_D A (wM cA q1 q5 q6 wd (upd er v1.toNatClampNeg ((er v1.toNatClampNeg) + (1 : Int32)))) := hD
        cases hF
        exact W.vret hx hb hr (fun t ht hW => ⟨⟨(), rfl, trivial, by rw [ht]; exact hP, hD⟩, hS.F ht⟩) hS.2.2 d_M_erase_42
      · have hF := tx_f h13 hF
        refine lv_aload_n hx hb d_M_erase_16 rfl (lv_at hl 0 rfl) ?_
        refine va_get (D := (dC, dI)) (ci := 0) (v := .ref q5) (C := "FlashStore$Flash") (T := TM) (N := 2) hx hb hts inTM hown hK hP 0 rfl rfl 0 (by decide) w1 (fun _ h9 => h9) rfl d_M_erase_17 ?_
        refine lv_iload_n hx hb d_M_erase_20 rfl (lv_at hl 2 rfl) ?_
        refine lv_iload_n hx hb d_M_erase_21 rfl (lv_at hl 3 rfl) ?_
        refine lv_iadd hx hb d_M_erase_22 ?_
        refine lv_ldc hx hb hown w2 d_M_erase_23 ?_
        obtain ⟨hi25, hF⟩ := tx_g hF
        refine va_iast hx hb hK hP hD hS 1 0 rfl rfl hi25 d_M_erase_25 (fun H locs hP hD hS => ?_)
        have hP : va_P (dC, dI) vwCl (wM cA q1 q5 q6 (upd wd (v2 + v3).toNatClampNeg (2147483647 : Int32)) er) H := hP
        have hD : va_D A (wM cA q1 q5 q6 (upd wd (v2 + v3).toNatClampNeg (2147483647 : Int32)) er) := hD
        refine lv_iinc (k := 3) (v := (v3 + (1 : Int32))) hx hb d_M_erase_26 hl rfl rfl (by decide) rfl (fun ls hl => ?_)
        have hl : lv_has ls 4 [(3, .int (v3 + (1 : Int32))), (0, .ref q1), (1, .int v1), (2, .int v2)] := hl
        refine lv_goto hx hb d_M_erase_29 (tgt := 10) (by decide) ?_
        exact hrec0 _ _ _ (upd wd (v2 + v3).toNatClampNeg (2147483647 : Int32)) er v1 v2 (v3 + (1 : Int32)) hP hD hS (lv_sub hl [1, 2, 3, 0] rfl) hF
  obtain hrec0 := LH 100
  have hF : ((f_F_placeOf a1 (0 : Int32)).bind fun r2 => f_M_erase_H 100 wd er a1 (r2 * (5 : Int32)) (0 : Int32)) = some (wd', er') := hF
  refine lv_iload_n hx hb d_M_erase_0 rfl (lv_at hl 1 rfl) ?_
  refine lv_iconst (v := (0 : Int32)) hx hb d_M_erase_1 (by decide) ?_
  obtain ⟨r2, hc2, hF⟩ := tx_b hF
  refine tx_csNi (va_runSN (As := [.int a1, .int (0 : Int32)]) (rest := []) ⟨hx, hb, hml, hown, hts⟩ (c_F_placeOf l a1 (0 : Int32) r2 hc2) ⟨va_cnB 2 hts (tg_N bq_2_36) rfl rfl rfl hNw (hts _ (List.mem_cons_of_mem _ bq_1_1)) (by decide +kernel) ⟨Nat.le_of_ble_eq_true rfl, Nat.le_of_ble_eq_true rfl⟩, (hts _ (List.mem_cons_of_mem _ bq_2_35)), trivial⟩ ⟨tx_bl0, tx_pre0⟩ rfl rfl hl.1 rfl (lv_room (Nat.le_of_ble_eq_true rfl)) d_M_erase_2 ⟨Nat.zero_le _, Nat.zero_le _⟩) (fun zz hz => ?_)
  subst hz
  refine lv_iconst (v := (5 : Int32)) hx hb d_M_erase_5 (by decide) ?_
  refine lv_imul hx hb d_M_erase_6 ?_
  refine lv_istore_n hx hb d_M_erase_7 rfl hl (by decide) rfl (fun ls hl => ?_)
  have hl : lv_has ls 4 [(2, .int (r2 * (5 : Int32))), (0, .ref q1), (1, .int a1)] := hl
  refine lv_iconst (v := (0 : Int32)) hx hb d_M_erase_8 (by decide) ?_
  refine lv_istore_n hx hb d_M_erase_9 rfl hl (by decide) rfl (fun ls hl => ?_)
  have hl : lv_has ls 4 [(3, .int (0 : Int32)), (2, .int (r2 * (5 : Int32))), (0, .ref q1), (1, .int a1)] := hl
  exact hrec0 _ _ _ wd er a1 (r2 * (5 : Int32)) (0 : Int32) hP hD hS (lv_sub hl [2, 3, 1, 0] rfl) hF
abbrev rm_M_erasuresOf : Room := { frames := 0, cells := 0, slots := 0, locals := 0 }
set_option maxHeartbeats 4000000 in
set_option maxRecDepth 100000 in
theorem c_M_erasuresOf (l : Launch) (dC : Nat → ClassId) (dI : Nat → Nat → Nat) (cA : ClassId) (q1 q5 q6 : Nat) (wd er : Nat → Int32) (a1 : Int32) (r : Int32)  (hF : f_M_erasuresOf er a1 = some r) : Met l y_M_erasuresOf ws_M_erasuresOf rm_M_erasuresOf (tx_PR [.ref q1, .int a1] (dC, dI) [(cA, .int)] (wM cA q1 q5 q6 wd er)) (vp_Si (fun z => r = z)) 0 0 (fun _ => False) := by
  refine Met.ofW (cc := b_M_erasuresOf) (maxL := 2) (ret := some .int) (by decide +kernel) rfl ?_
  intro p e s m args below meth c s₁ B hml hv
  obtain ⟨hargs, hP, hK⟩ := hv
  have hx := B.exec
  have hb := B.bytes
  have hr := B.returns
  have hts := atoms_spec (ws := ws_M_erasuresOf) B.pre
  have hown : s.vm.findClass "FlashStore$Flash" = some m.cls := findClass_of_methodNamed B.named
  have hlocks := B.notSynchronized
  have w0 := (hts _ (List.mem_cons_of_mem _ bq_1_33))
  have hl := lv_entry ([.ref q1, .int a1]) (n := 2) (Nat.le_of_ble_eq_true rfl)
  have hen : entryFrame m args 2 = _ := (congrArg (fun z => entryFrame m z 2) hargs).trans (lg_entry_eq m ([.ref q1, .int a1]) 2)
  refine W.eq hen ?_
  clear hen
  generalize (lg_sl ([.ref q1, .int a1]) ++ List.replicate (2 - (lg_sl ([.ref q1, .int a1])).length) Slot.unset).toArray = ls at hl ⊢
  have hl : lv_has ls 2 [(0, .ref q1), (1, .int a1)] := hl
  have hF : (if a1 < 0 ∨ 4 ≤ a1.toNatClampNeg then none else some (er a1.toNatClampNeg)) = some r := hF
  refine lv_aload_n hx hb d_M_erasuresOf_0 rfl (lv_at hl 0 rfl) ?_
  refine va_get (D := (dC, dI)) (ci := 0) (v := .ref q6) (C := "FlashStore$Flash") (T := TM) (N := 2) hx hb hts inTM hown hK hP 0 rfl rfl 1 (by decide) w0 (fun _ h9 => h9) rfl d_M_erasuresOf_1 ?_
  refine lv_iload_n hx hb d_M_erasuresOf_4 rfl (lv_at hl 1 rfl) ?_
  obtain ⟨hi5, hF⟩ := tx_g hF
  refine va_iald hx hb hK hP 2 0 rfl rfl hi5 d_M_erasuresOf_5 ?_
  exact W.iret hx hb hr (fun t ht hW => ⟨_, rfl, (Option.some.inj hF).symm, ht⟩) (fun q h => by cases h) d_M_erasuresOf_6
abbrev rm_M_tagAt : Room := { frames := 3, cells := 0, slots := 0, locals := 68 }
set_option maxHeartbeats 4000000 in
set_option maxRecDepth 100000 in
theorem c_M_tagAt (l : Launch) (dC : Nat → ClassId) (dI : Nat → Nat → Nat) (cA : ClassId) (q1 q5 q6 : Nat) (wd er : Nat → Int32) (a1 : Int32) (r : Int32)  (hF : f_M_tagAt wd a1 = some r) : Met l y_M_tagAt ws_M_tagAt rm_M_tagAt (tx_PR [.ref q1, .int a1] (dC, dI) [(cA, .int)] (wM cA q1 q5 q6 wd er)) (vp_Si (fun z => r = z)) 0 0 (fun _ => False) := by
  refine Met.ofW (cc := b_M_tagAt) (maxL := 3) (ret := some .int) (by decide +kernel) rfl ?_
  intro p e s m args below meth c s₁ B hml hv
  obtain ⟨hargs, hP, hK⟩ := hv
  have hx := B.exec
  have hb := B.bytes
  have hr := B.returns
  have hts := atoms_spec (ws := ws_M_tagAt) B.pre
  have hown : s.vm.findClass "FlashStore$Flash" = some m.cls := findClass_of_methodNamed B.named
  have hlocks := B.notSynchronized
  have hl := lv_entry ([.ref q1, .int a1]) (n := 3) (Nat.le_of_ble_eq_true rfl)
  have hen : entryFrame m args 3 = _ := (congrArg (fun z => entryFrame m z 3) hargs).trans (lg_entry_eq m ([.ref q1, .int a1]) 3)
  refine W.eq hen ?_
  clear hen
  generalize (lg_sl ([.ref q1, .int a1]) ++ List.replicate (3 - (lg_sl ([.ref q1, .int a1])).length) Slot.unset).toArray = ls at hl ⊢
  have hl : lv_has ls 3 [(0, .ref q1), (1, .int a1)] := hl
  have J23 : ∀ (ls : Array Slot) (z0 : Int32), lv_has ls 3 [] → f_M_tagAt_J23 wd z0 = some r → W p l e (headSpec ws_M_tagAt rm_M_tagAt).room s m args below meth c s.heap [] 0 0 (MQ below (vp_Si (fun z => r = z)) args s 0 0 (fun _ => False)) (F0 m 23 ls [.int z0]) := by
    intro ls z0 hl hF
    have hF : (some z0) = some r := hF
    exact W.iret hx hb hr (fun t ht hW => ⟨_, rfl, (Option.some.inj hF).symm, ht⟩) (fun q h => by cases h) d_M_tagAt_23
  have hF : ((f_M_wordAt wd a1 (4 : Int32)).bind fun r3 => (f_C_mend r3).bind fun r6 => if r6 = (-1 : Int32) then (f_M_tagAt_J23 wd (-1 : Int32)) else ((f_C_dataOf r6).bind fun r20 => f_M_tagAt_J23 wd r20)) = some r := hF
  refine lv_aload_n hx hb d_M_tagAt_0 rfl (lv_at hl 0 rfl) ?_
  refine lv_iload_n hx hb d_M_tagAt_1 rfl (lv_at hl 1 rfl) ?_
  refine lv_iconst (v := (4 : Int32)) hx hb d_M_tagAt_2 (by decide) ?_
  obtain ⟨r3, hc3, hF⟩ := tx_b hF
  refine vp_callSi (W.runV (As := [.int a1, .int (4 : Int32)]) (rest := []) ⟨hx, hb, hml, hown, hts⟩ (c_M_wordAt l dC dI cA q1 q5 q6 wd er a1 (4 : Int32) r3 hc3) (cwV 2 hts (tg_V bq_1_72 bq_1_73 bq_1_74 bq_1_2 bq_1_75) rfl rfl rfl (by decide +kernel) ⟨Nat.le_of_ble_eq_true rfl, Nat.le_of_ble_eq_true rfl⟩) ⟨tx_blR, (va_recv (ci := 0) (q0 := 0) hK hP rfl rfl), tx_preR (hP) hK⟩ rfl rfl hl.1 rfl (lv_room (Nat.le_of_ble_eq_true rfl)) d_M_tagAt_3 ⟨Nat.zero_le _, Nat.zero_le _⟩) (fun zz hz => ?_)
  subst hz
  obtain ⟨r6, hc6, hF⟩ := tx_b hF
  refine vp_callSi (W.runS (As := [.int r3]) (rest := []) ⟨hx, hb, hml, hown, hts⟩ (c_C_mend l r3 r6 hc6) (va_cwS 1 hts (tg_S bq_1_76 bq_1_77 bq_1_9 bq_1_78) rfl rfl rfl (by decide +kernel) ⟨Nat.le_of_ble_eq_true rfl, Nat.le_of_ble_eq_true rfl⟩) ⟨tx_bl0, tx_pre0⟩ rfl rfl hl.1 rfl (lv_room (Nat.le_of_ble_eq_true rfl)) d_M_tagAt_6 ⟨Nat.zero_le _, Nat.zero_le _⟩) (fun zz hz => ?_)
  subst hz
  refine lv_istore_n hx hb d_M_tagAt_9 rfl hl (by decide) rfl (fun ls hl => ?_)
  have hl : lv_has ls 3 [(2, .int r6), (0, .ref q1), (1, .int a1)] := hl
  refine lv_iload_n hx hb d_M_tagAt_10 rfl (lv_at hl 0 rfl) ?_
  refine lv_iconst (v := (-1 : Int32)) hx hb d_M_tagAt_11 (by decide) ?_
  refine lv_icmp_ne hx hb d_M_tagAt_12 (tgt := 19) (by decide) (fun h12 => ?_) (fun h12 => ?_)
  · have hF := tx_f h12 hF
    refine lv_iload_n hx hb d_M_tagAt_19 rfl (lv_at hl 0 rfl) ?_
    obtain ⟨r20, hc20, hF⟩ := tx_b hF
    refine vp_callSi (W.runS (As := [.int r6]) (rest := []) ⟨hx, hb, hml, hown, hts⟩ (c_C_dataOf l r6 r20 hc20) (va_cwS 1 hts (tg_S bq_1_100 bq_1_101 bq_1_9 bq_1_102) rfl rfl rfl (by decide +kernel) ⟨Nat.le_of_ble_eq_true rfl, Nat.le_of_ble_eq_true rfl⟩) ⟨tx_bl0, tx_pre0⟩ rfl rfl hl.1 rfl (lv_room (Nat.le_of_ble_eq_true rfl)) d_M_tagAt_20 ⟨Nat.zero_le _, Nat.zero_le _⟩) (fun zz hz => ?_)
    subst hz
    exact J23 _ r20 (lv_sub hl [] rfl) hF
  · have hF := tx_t h12 hF
    refine lv_iconst (v := (-1 : Int32)) hx hb d_M_tagAt_15 (by decide) ?_
    refine lv_goto hx hb d_M_tagAt_16 (tgt := 23) (by decide) ?_
    exact J23 _ (-1 : Int32) (lv_sub hl [] rfl) hF
abbrev rm_M_isReadable : Room := { frames := 3, cells := 0, slots := 0, locals := 68 }
set_option maxHeartbeats 4000000 in
set_option maxRecDepth 100000 in
theorem c_M_isReadable (l : Launch) (dC : Nat → ClassId) (dI : Nat → Nat → Nat) (cA : ClassId) (q1 q5 q6 : Nat) (wd er : Nat → Int32) (a1 : Int32) (r : Int32)  (hF : f_M_isReadable wd a1 = some r) : Met l y_M_isReadable ws_M_isReadable rm_M_isReadable (tx_PR [.ref q1, .int a1] (dC, dI) [(cA, .int)] (wM cA q1 q5 q6 wd er)) (vp_Si (fun z => r = z)) 0 0 (fun _ => False) := by
  refine Met.ofW (cc := b_M_isReadable) (maxL := 3) (ret := some .boolean) (by decide +kernel) rfl ?_
  intro p e s m args below meth c s₁ B hml hv
  obtain ⟨hargs, hP, hK⟩ := hv
  have hx := B.exec
  have hb := B.bytes
  have hr := B.returns
  have hts := atoms_spec (ws := ws_M_isReadable) B.pre
  have hown : s.vm.findClass "FlashStore$Flash" = some m.cls := findClass_of_methodNamed B.named
  have hlocks := B.notSynchronized
  have hl := lv_entry ([.ref q1, .int a1]) (n := 3) (Nat.le_of_ble_eq_true rfl)
  have hen : entryFrame m args 3 = _ := (congrArg (fun z => entryFrame m z 3) hargs).trans (lg_entry_eq m ([.ref q1, .int a1]) 3)
  refine W.eq hen ?_
  clear hen
  generalize (lg_sl ([.ref q1, .int a1]) ++ List.replicate (3 - (lg_sl ([.ref q1, .int a1])).length) Slot.unset).toArray = ls at hl ⊢
  have hl : lv_has ls 3 [(0, .ref q1), (1, .int a1)] := hl
  have LH : ∀ n : Nat, (∀ (ls : Array Slot) (v1 : Int32) (v2 : Int32), lv_has ls 3 [(0, .ref q1), (1, .int v1), (2, .int v2)] → f_M_isReadable_H n wd v1 v2 = some r → W p l e (headSpec ws_M_isReadable rm_M_isReadable).room s m args below meth c s.heap [] 0 0 (MQ below (vp_Si (fun z => r = z)) args s 0 0 (fun _ => False)) (F0 m 2 ls [])) := by
    intro n
    induction n with
    | zero =>
      exact (by intro ls v1 v2 hl hF; have hF : (none : Option (Int32)) = _ := hF; cases hF)
    | succ n ih =>
      have hrec0 := ih
      intro ls v1 v2 hl hF
      have hF : (if (4 : Int32) ≤ v2 then (if ¬ ((1 : Int32) = 0 ∨ (1 : Int32) = 1) then none else some (1 : Int32)) else ((f_M_wordAt wd v1 v2).bind fun r10 => (f_C_mend r10).bind fun r13 => if r13 = (-1 : Int32) then (if ¬ ((0 : Int32) = 0 ∨ (0 : Int32) = 1) then none else some (0 : Int32)) else (f_M_isReadable_H n wd v1 (v2 + (1 : Int32))))) = some r := hF
      refine lv_iload_n hx hb d_M_isReadable_2 rfl (lv_at hl 2 rfl) ?_
      refine lv_iconst (v := (4 : Int32)) hx hb d_M_isReadable_3 (by decide) ?_
      refine lv_icmp_ge hx hb d_M_isReadable_4 (tgt := 28) (by decide) (fun h4 => ?_) (fun h4 => ?_)
      · have hF := tx_t h4 hF
        refine lv_iconst (v := (1 : Int32)) hx hb d_M_isReadable_28 (by decide) ?_
        obtain ⟨hz, hF⟩ := tx_g hF
        have hz := Classical.not_not.mp hz
        exact W.zret hx hb hr (tx_z hz) (fun t ht hW => ⟨_, rfl, (Option.some.inj hF).symm, ht⟩) (fun q h => by cases h) d_M_isReadable_29
      · have hF := tx_f h4 hF
        refine lv_aload_n hx hb d_M_isReadable_7 rfl (lv_at hl 0 rfl) ?_
        refine lv_iload_n hx hb d_M_isReadable_8 rfl (lv_at hl 1 rfl) ?_
        refine lv_iload_n hx hb d_M_isReadable_9 rfl (lv_at hl 2 rfl) ?_
        obtain ⟨r10, hc10, hF⟩ := tx_b hF
        refine vp_callSi (W.runV (As := [.int v1, .int v2]) (rest := []) ⟨hx, hb, hml, hown, hts⟩ (c_M_wordAt l dC dI cA q1 q5 q6 wd er v1 v2 r10 hc10) (cwV 2 hts (tg_V bq_1_72 bq_1_73 bq_1_74 bq_1_2 bq_1_75) rfl rfl rfl (by decide +kernel) ⟨Nat.le_of_ble_eq_true rfl, Nat.le_of_ble_eq_true rfl⟩) ⟨tx_blR, (va_recv (ci := 0) (q0 := 0) hK hP rfl rfl), tx_preR (hP) hK⟩ rfl rfl hl.1 rfl (lv_room (Nat.le_of_ble_eq_true rfl)) d_M_isReadable_10 ⟨Nat.zero_le _, Nat.zero_le _⟩) (fun zz hz => ?_)
        subst hz
        obtain ⟨r13, hc13, hF⟩ := tx_b hF
        refine vp_callSi (W.runS (As := [.int r10]) (rest := []) ⟨hx, hb, hml, hown, hts⟩ (c_C_mend l r10 r13 hc13) (va_cwS 1 hts (tg_S bq_1_76 bq_1_77 bq_1_9 bq_1_78) rfl rfl rfl (by decide +kernel) ⟨Nat.le_of_ble_eq_true rfl, Nat.le_of_ble_eq_true rfl⟩) ⟨tx_bl0, tx_pre0⟩ rfl rfl hl.1 rfl (lv_room (Nat.le_of_ble_eq_true rfl)) d_M_isReadable_13 ⟨Nat.zero_le _, Nat.zero_le _⟩) (fun zz hz => ?_)
        subst hz
        refine lv_iconst (v := (-1 : Int32)) hx hb d_M_isReadable_16 (by decide) ?_
        refine lv_icmp_ne hx hb d_M_isReadable_17 (tgt := 22) (by decide) (fun h17 => ?_) (fun h17 => ?_)
        · have hF := tx_f h17 hF
          refine lv_iinc (k := 2) (v := (v2 + (1 : Int32))) hx hb d_M_isReadable_22 hl rfl rfl (by decide) rfl (fun ls hl => ?_)
          have hl : lv_has ls 3 [(2, .int (v2 + (1 : Int32))), (0, .ref q1), (1, .int v1)] := hl
          refine lv_goto hx hb d_M_isReadable_25 (tgt := 2) (by decide) ?_
          exact hrec0 _ v1 (v2 + (1 : Int32)) (lv_sub hl [1, 2, 0] rfl) hF
        · have hF := tx_t h17 hF
          refine lv_iconst (v := (0 : Int32)) hx hb d_M_isReadable_20 (by decide) ?_
          obtain ⟨hz, hF⟩ := tx_g hF
          have hz := Classical.not_not.mp hz
          exact W.zret hx hb hr (tx_z hz) (fun t ht hW => ⟨_, rfl, (Option.some.inj hF).symm, ht⟩) (fun q h => by cases h) d_M_isReadable_21
  obtain hrec0 := LH 100
  have hF : (f_M_isReadable_H 100 wd a1 (0 : Int32)) = some r := hF
  refine lv_iconst (v := (0 : Int32)) hx hb d_M_isReadable_0 (by decide) ?_
  refine lv_istore_n hx hb d_M_isReadable_1 rfl hl (by decide) rfl (fun ls hl => ?_)
  have hl : lv_has ls 3 [(2, .int (0 : Int32)), (0, .ref q1), (1, .int a1)] := hl
  exact hrec0 _ a1 (0 : Int32) (lv_sub hl [1, 2, 0] rfl) hF
abbrev rm_M_contentAt : Room := { frames := 3, cells := 0, slots := 0, locals := 68 }
set_option maxHeartbeats 4000000 in
set_option maxRecDepth 100000 in
theorem c_M_contentAt (l : Launch) (dC : Nat → ClassId) (dI : Nat → Nat → Nat) (cA : ClassId) (q1 q5 q6 : Nat) (wd er : Nat → Int32) (a1 : Int32) (r : Int64)  (hF : f_M_contentAt wd a1 = some r) : Met l y_M_contentAt ws_M_contentAt rm_M_contentAt (tx_PR [.ref q1, .int a1] (dC, dI) [(cA, .int)] (wM cA q1 q5 q6 wd er)) (vp_Sl (fun z => r = z)) 0 0 (fun _ => False) := by
  refine Met.ofW (cc := b_M_contentAt) (maxL := 7) (ret := some .long) (by decide +kernel) rfl ?_
  intro p e s m args below meth c s₁ B hml hv
  obtain ⟨hargs, hP, hK⟩ := hv
  have hx := B.exec
  have hb := B.bytes
  have hr := B.returns
  have hts := atoms_spec (ws := ws_M_contentAt) B.pre
  have hown : s.vm.findClass "FlashStore$Flash" = some m.cls := findClass_of_methodNamed B.named
  have hlocks := B.notSynchronized
  have hl := lv_entry ([.ref q1, .int a1]) (n := 7) (Nat.le_of_ble_eq_true rfl)
  have hen : entryFrame m args 7 = _ := (congrArg (fun z => entryFrame m z 7) hargs).trans (lg_entry_eq m ([.ref q1, .int a1]) 7)
  refine W.eq hen ?_
  clear hen
  generalize (lg_sl ([.ref q1, .int a1]) ++ List.replicate (7 - (lg_sl ([.ref q1, .int a1])).length) Slot.unset).toArray = ls at hl ⊢
  have hl : lv_has ls 7 [(0, .ref q1), (1, .int a1)] := hl
  have LH : ∀ n : Nat, (∀ (ls : Array Slot) (v1 : Int32) (v2 : Int64) (v4 : Int32), lv_has ls 7 [(0, .ref q1), (1, .int v1), (2, .long v2), (4, .int v4)] → f_M_contentAt_H n wd v1 v2 v4 = some r → W p l e (headSpec ws_M_contentAt rm_M_contentAt).room s m args below meth c s.heap [] 0 0 (MQ below (vp_Sl (fun z => r = z)) args s 0 0 (fun _ => False)) (F0 m 5 ls [])) := by
    intro n
    induction n with
    | zero =>
      exact (by intro ls v1 v2 v4 hl hF; have hF : (none : Option (Int64)) = _ := hF; cases hF)
    | succ n ih =>
      have hrec0 := ih
      intro ls v1 v2 v4 hl hF
      have hF : (if (4 : Int32) ≤ v4 then (some v2) else ((f_M_wordAt wd v1 v4).bind fun r15 => (f_C_mend r15).bind fun r18 => (f_C_dataOf r18).bind fun r21 => f_M_contentAt_H n wd v1 (v2 ||| (r21.toInt64 <<< ((v4 * (16 : Int32)).toInt64 &&& 63))) (v4 + (1 : Int32)))) = some r := hF
      refine lv_iload hx hb d_M_contentAt_5 (lv_at hl 3 rfl) ?_
      refine lv_iconst (v := (4 : Int32)) hx hb d_M_contentAt_7 (by decide) ?_
      refine lv_icmp_ge hx hb d_M_contentAt_8 (tgt := 44) (by decide) (fun h8 => ?_) (fun h8 => ?_)
      · have hF := tx_t h8 hF
        refine lv_lload_n hx hb d_M_contentAt_44 rfl (lv_at hl 2 rfl) ?_
        exact W.lret hx hb hr (fun t ht hW => ⟨_, rfl, (Option.some.inj hF).symm, ht⟩) (fun q h => by cases h) d_M_contentAt_45
      · have hF := tx_f h8 hF
        refine lv_aload_n hx hb d_M_contentAt_11 rfl (lv_at hl 0 rfl) ?_
        refine lv_iload_n hx hb d_M_contentAt_12 rfl (lv_at hl 1 rfl) ?_
        refine lv_iload hx hb d_M_contentAt_13 (lv_at hl 3 rfl) ?_
        obtain ⟨r15, hc15, hF⟩ := tx_b hF
        refine vp_callSi (W.runV (As := [.int v1, .int v4]) (rest := []) ⟨hx, hb, hml, hown, hts⟩ (c_M_wordAt l dC dI cA q1 q5 q6 wd er v1 v4 r15 hc15) (cwV 2 hts (tg_V bq_1_72 bq_1_73 bq_1_74 bq_1_2 bq_1_75) rfl rfl rfl (by decide +kernel) ⟨Nat.le_of_ble_eq_true rfl, Nat.le_of_ble_eq_true rfl⟩) ⟨tx_blR, (va_recv (ci := 0) (q0 := 0) hK hP rfl rfl), tx_preR (hP) hK⟩ rfl rfl hl.1 rfl (lv_room (Nat.le_of_ble_eq_true rfl)) d_M_contentAt_15 ⟨Nat.zero_le _, Nat.zero_le _⟩) (fun zz hz => ?_)
        subst hz
        obtain ⟨r18, hc18, hF⟩ := tx_b hF
        refine vp_callSi (W.runS (As := [.int r15]) (rest := []) ⟨hx, hb, hml, hown, hts⟩ (c_C_mend l r15 r18 hc18) (va_cwS 1 hts (tg_S bq_1_76 bq_1_77 bq_1_9 bq_1_78) rfl rfl rfl (by decide +kernel) ⟨Nat.le_of_ble_eq_true rfl, Nat.le_of_ble_eq_true rfl⟩) ⟨tx_bl0, tx_pre0⟩ rfl rfl hl.1 rfl (lv_room (Nat.le_of_ble_eq_true rfl)) d_M_contentAt_18 ⟨Nat.zero_le _, Nat.zero_le _⟩) (fun zz hz => ?_)
        subst hz
        obtain ⟨r21, hc21, hF⟩ := tx_b hF
        refine vp_callSi (W.runS (As := [.int r18]) (rest := []) ⟨hx, hb, hml, hown, hts⟩ (c_C_dataOf l r18 r21 hc21) (va_cwS 1 hts (tg_S bq_1_100 bq_1_101 bq_1_9 bq_1_102) rfl rfl rfl (by decide +kernel) ⟨Nat.le_of_ble_eq_true rfl, Nat.le_of_ble_eq_true rfl⟩) ⟨tx_bl0, tx_pre0⟩ rfl rfl hl.1 rfl (lv_room (Nat.le_of_ble_eq_true rfl)) d_M_contentAt_21 ⟨Nat.zero_le _, Nat.zero_le _⟩) (fun zz hz => ?_)
        subst hz
        refine lv_i2l hx hb d_M_contentAt_24 rfl ?_
        refine lv_lstore hx hb d_M_contentAt_25 hl (by decide) rfl (fun ls hl => ?_)
        have hl : lv_has ls 7 [(5, .long r21.toInt64), (0, .ref q1), (1, .int v1), (2, .long v2), (4, .int v4)] := hl
        refine lv_lload_n hx hb d_M_contentAt_27 rfl (lv_at hl 3 rfl) ?_
        refine lv_lload hx hb d_M_contentAt_28 (lv_at hl 0 rfl) ?_
        refine lv_iload hx hb d_M_contentAt_30 (lv_at hl 4 rfl) ?_
        refine lv_bipush (v := (16 : Int32)) hx hb d_M_contentAt_32 (by decide) ?_
        refine lv_imul hx hb d_M_contentAt_34 ?_
        refine lv_lshl hx hb d_M_contentAt_35 rfl ?_
        refine lv_lor hx hb d_M_contentAt_36 ?_
        refine lv_lstore_n hx hb d_M_contentAt_37 rfl hl (by decide) rfl (fun ls hl => ?_)
        have hl : lv_has ls 7 [(2, .long (v2 ||| (r21.toInt64 <<< ((v4 * (16 : Int32)).toInt64 &&& 63)))), (5, .long r21.toInt64), (0, .ref q1), (1, .int v1), (4, .int v4)] := hl
        refine lv_iinc (k := 4) (v := (v4 + (1 : Int32))) hx hb d_M_contentAt_38 hl rfl rfl (by decide) rfl (fun ls hl => ?_)
        have hl : lv_has ls 7 [(4, .int (v4 + (1 : Int32))), (2, .long (v2 ||| (r21.toInt64 <<< ((v4 * (16 : Int32)).toInt64 &&& 63)))), (5, .long r21.toInt64), (0, .ref q1), (1, .int v1)] := hl
        refine lv_goto hx hb d_M_contentAt_41 (tgt := 5) (by decide) ?_
        exact hrec0 _ v1 (v2 ||| (r21.toInt64 <<< ((v4 * (16 : Int32)).toInt64 &&& 63))) (v4 + (1 : Int32)) (lv_sub hl [3, 4, 1, 0] rfl) hF
  obtain hrec0 := LH 100
  have hF : (f_M_contentAt_H 100 wd a1 (0 : Int64) (0 : Int32)) = some r := hF
  refine lv_lconst (v := (0 : Int64)) hx hb d_M_contentAt_0 (by decide) ?_
  refine lv_lstore_n hx hb d_M_contentAt_1 rfl hl (by decide) rfl (fun ls hl => ?_)
  have hl : lv_has ls 7 [(2, .long (0 : Int64)), (0, .ref q1), (1, .int a1)] := hl
  refine lv_iconst (v := (0 : Int32)) hx hb d_M_contentAt_2 (by decide) ?_
  refine lv_istore hx hb d_M_contentAt_3 hl (by decide) rfl (fun ls hl => ?_)
  have hl : lv_has ls 7 [(4, .int (0 : Int32)), (2, .long (0 : Int64)), (0, .ref q1), (1, .int a1)] := hl
  exact hrec0 _ a1 (0 : Int64) (0 : Int32) (lv_sub hl [2, 3, 1, 0] rfl) hF
