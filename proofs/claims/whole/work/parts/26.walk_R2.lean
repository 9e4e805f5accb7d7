abbrev rm_R_program : Room := { frames := 2, cells := 0, slots := 0, locals := 44 }
set_option maxHeartbeats 4000000 in
set_option maxRecDepth 100000 in
theorem c_R_program (l : Launch) (dC : Nat → ClassId) (dI : Nat → Nat → Nat) (cA : ClassId) (h0 q1 q2 q3 q4 q5 q6 q7 sz : Nat) (rm fl us lg se we wh : Nat → Int32) (th nx md wr : Int32) (a1 : Int32) (a2 : Int32) (a3 : Int32) (fl' : Nat → Int32) (hF : f_R_program rm fl a1 a2 a3 = some fl') : Met l y_R_program ws_R_program rm_R_program (tx_PW [.ref h0, .int a1, .int a2, .int a3] (dC, dI) [(cA, .int)] (wR cA h0 q1 q2 q3 q4 q5 q6 q7 rm fl us lg se we wh th nx md wr) sz) (va_Qv (S := Unit) (fun _ => True) (fun _ t => va_P (dC, dI) vwCl (wR cA h0 q1 q2 q3 q4 q5 q6 q7 rm (fl') us lg se we wh th nx md wr) t.heap ∧ va_D (va_A (wR cA h0 q1 q2 q3 q4 q5 q6 q7 rm fl us lg se we wh th nx md wr) sz) (wR cA h0 q1 q2 q3 q4 q5 q6 q7 rm (fl') us lg se we wh th nx md wr)) (va_A (wR cA h0 q1 q2 q3 q4 q5 q6 q7 rm fl us lg se we wh th nx md wr) sz)) 0 0 (va_A (wR cA h0 q1 q2 q3 q4 q5 q6 q7 rm fl us lg se we wh th nx md wr) sz) := by
  refine Met.ofW (cc := b_R_program) (maxL := 4) (ret := none) (by decide +kernel) rfl ?_
  intro p e s m args below meth c s₁ B hml hv
  obtain ⟨hargs, hsz, hP, hK, hD0, hNw⟩ := hv
  have hx := B.exec
  have hb := B.bytes
  have hr := B.returns
  have hts := atoms_spec (ws := ws_R_program) B.pre
  have hown : s.vm.findClass "FlashStoreModel" = some m.cls := findClass_of_methodNamed B.named
  have hlocks := B.notSynchronized
  subst hsz
  have hD := hD0.self (sz := s.heap.size)
  generalize hAe : va_A (wR cA h0 q1 q2 q3 q4 q5 q6 q7 rm fl us lg se we wh th nx md wr) s.heap.size = A at hD ⊢
  have hA : ∀ q : Nat, s.heap.size ≤ q → A q := fun q h => by rw [← hAe]; exact Or.inr h
  have hS : va_S A s.heap s.heap [] := va_S.rf
  have hP : va_P (dC, dI) vwCl (wR cA h0 q1 q2 q3 q4 q5 q6 q7 rm fl us lg se we wh th nx md wr) s.heap := hP
  have w0 := (hts _ (List.mem_cons_of_mem _ bq_2_194))
  have hl := lv_entry ([.ref h0, .int a1, .int a2, .int a3]) (n := 4) (Nat.le_of_ble_eq_true rfl)
  have hen : entryFrame m args 4 = _ := (congrArg (fun z => entryFrame m z 4) hargs).trans (lg_entry_eq m ([.ref h0, .int a1, .int a2, .int a3]) 4)
  refine W.eq hen ?_
  clear hen
  generalize (lg_sl ([.ref h0, .int a1, .int a2, .int a3]) ++ List.replicate (4 - (lg_sl ([.ref h0, .int a1, .int a2, .int a3])).length) Slot.unset).toArray = ls at hl ⊢
  have hl : lv_has ls 4 [(0, .ref h0), (1, .int a1), (2, .int a2), (3, .int a3)] := hl
  have hF : (if (((5 : Int32) * a1) + a2) < 0 ∨ 80 ≤ (((5 : Int32) * a1) + a2).toNatClampNeg then none else (f_R_codeword rm a3).bind fun r21 => some (upd fl (((5 : Int32) * a1) + a2).toNatClampNeg ((fl (((5 : Int32) * a1) + a2).toNatClampNeg) &&& r21))) = some fl' := hF
  refine lv_aload_n hx hb d_R_program_0 rfl (lv_at hl 0 rfl) ?_
  refine va_get (D := (dC, dI)) (ci := 2) (v := .ref q2) (C := "FlashStoreModel") (T := TR) (N := 11) hx hb hts inTR hown hK hP 0 rfl rfl 2 (by decide) w0 (fun _ h9 => h9) rfl d_R_program_1 ?_
  refine lv_iconst (v := (5 : Int32)) hx hb d_R_program_4 (by decide) ?_
  refine lv_iload_n hx hb d_R_program_5 rfl (lv_at hl 1 rfl) ?_
  refine lv_imul hx hb d_R_program_6 ?_
  refine lv_iload_n hx hb d_R_program_7 rfl (lv_at hl 2 rfl) ?_
  refine lv_iadd hx hb d_R_program_8 ?_
  refine lv_aload_n hx hb d_R_program_9 rfl (lv_at hl 0 rfl) ?_
  refine va_get (D := (dC, dI)) (ci := 2) (v := .ref q2) (C := "FlashStoreModel") (T := TR) (N := 11) hx hb hts inTR hown hK hP 0 rfl rfl 2 (by decide) w0 (fun _ h9 => h9) rfl d_R_program_10 ?_
  refine lv_iconst (v := (5 : Int32)) hx hb d_R_program_13 (by decide) ?_
  refine lv_iload_n hx hb d_R_program_14 rfl (lv_at hl 1 rfl) ?_
  refine lv_imul hx hb d_R_program_15 ?_
  refine lv_iload_n hx hb d_R_program_16 rfl (lv_at hl 2 rfl) ?_
  refine lv_iadd hx hb d_R_program_17 ?_
  obtain ⟨hi18, hF⟩ := tx_g hF
  refine va_iald hx hb hK hP 2 0 rfl rfl hi18 d_R_program_18 ?_
  refine lv_aload_n hx hb d_R_program_19 rfl (lv_at hl 0 rfl) ?_
  refine lv_iload_n hx hb d_R_program_20 rfl (lv_at hl 3 rfl) ?_
  obtain ⟨r21, hc21, hF⟩ := tx_b hF
  refine vp_callSi (W.runV (As := [.int a3]) (rest := [.int (fl (((5 : Int32) * a1) + a2).toNatClampNeg), .int (((5 : Int32) * a1) + a2), .ref q2]) ⟨hx, hb, hml, hown, hts⟩ (c_R_codeword l dC dI cA h0 q1 q2 q3 q4 q5 q6 q7 rm fl us lg se we wh th nx md wr a3 r21 hc21) (cwV 1 hts (tg_V bq_3_2 bq_3_4 bq_s_18 bq_1_4 bq_3_5) rfl rfl rfl (by decide +kernel) ⟨Nat.le_of_ble_eq_true rfl, Nat.le_of_ble_eq_true rfl⟩) ⟨tx_blR, (va_recv (ci := 2) (q0 := 0) hK hP rfl rfl), tx_preR (hP) hK⟩ rfl rfl hl.1 rfl (lv_room (Nat.le_of_ble_eq_true rfl)) d_R_program_21 ⟨Nat.zero_le _, Nat.zero_le _⟩) (fun zz hz => ?_)
  subst hz
  refine lv_iand hx hb d_R_program_24 ?_
  refine va_iast hx hb hK hP hD hS 2 0 rfl rfl hi18 d_R_program_25 (fun H locs hP hD hS => ?_)
  have hP : va_P (dC, dI) vwCl (wR cA h0 q1 q2 q3 q4 q5 q6 q7 rm (upd fl (((5 : Int32) * a1) + a2).toNatClampNeg ((fl (((5 : Int32) * a1) + a2).toNatClampNeg) &&& r21)) us lg se we wh th nx md wr) H := hP
  have hD : va_D A (wR cA h0 q1 q2 q3 q4 q5 q6 q7 rm (upd fl (((5 : Int32) * a1) + a2).toNatClampNeg ((fl (((5 : Int32) * a1) + a2).toNatClampNeg) &&& r21)) us lg se we wh th nx md wr) := hD
  cases hF
  exact W.vret hx hb hr (fun t ht hW => ⟨⟨(), rfl, trivial, by rw [ht]; exact hP, hD⟩, hS.F ht⟩) hS.2.2 d_R_program_26
abbrev rm_R_count : Room := { frames := 0, cells := 0, slots := 0, locals := 0 }
set_option maxHeartbeats 4000000 in
set_option maxRecDepth 100000 in
theorem c_R_count (l : Launch) (dC : Nat → ClassId) (dI : Nat → Nat → Nat) (cA : ClassId) (h0 q1 q2 q3 q4 q5 q6 q7 : Nat) (rm fl us lg se we wh : Nat → Int32) (th nx md wr : Int32) (a1 : Int32) (a2 : Int32) (r : Int32)  (hF : f_R_count us a1 a2 = some r) : Met l y_R_count ws_R_count rm_R_count (tx_PR [.ref h0, .int a1, .int a2] (dC, dI) [(cA, .int)] (wR cA h0 q1 q2 q3 q4 q5 q6 q7 rm fl us lg se we wh th nx md wr)) (vp_Si (fun z => r = z)) 0 0 (fun _ => False) := by
  refine Met.ofW (cc := b_R_count) (maxL := 5) (ret := some .int) (by decide +kernel) rfl ?_
  intro p e s m args below meth c s₁ B hml hv
  obtain ⟨hargs, hP, hK⟩ := hv
  have hx := B.exec
  have hb := B.bytes
  have hr := B.returns
  have hts := atoms_spec (ws := ws_R_count) B.pre
  have hown : s.vm.findClass "FlashStoreModel" = some m.cls := findClass_of_methodNamed B.named
  have hlocks := B.notSynchronized
  have w0 := (hts _ (List.mem_cons_of_mem _ bq_2_195))
  have hl := lv_entry ([.ref h0, .int a1, .int a2]) (n := 5) (Nat.le_of_ble_eq_true rfl)
  have hen : entryFrame m args 5 = _ := (congrArg (fun z => entryFrame m z 5) hargs).trans (lg_entry_eq m ([.ref h0, .int a1, .int a2]) 5)
  refine W.eq hen ?_
  clear hen
  generalize (lg_sl ([.ref h0, .int a1, .int a2]) ++ List.replicate (5 - (lg_sl ([.ref h0, .int a1, .int a2])).length) Slot.unset).toArray = ls at hl ⊢
  have hl : lv_has ls 5 [(0, .ref h0), (1, .int a1), (2, .int a2)] := hl
  have J33 : ∀ (rc : (Nat → Int32) → Int32 → Int32 → Int32 → Int32 → Option (Int32)) (hrec0 : ∀ (ls : Array Slot) (v1 : Int32) (v2 : Int32) (v3 : Int32) (v4 : Int32), lv_has ls 5 [(0, .ref h0), (1, .int v1), (2, .int v2), (3, .int v3), (4, .int v4)] → rc us v1 v2 v3 v4 = some r → W p l e (headSpec ws_R_count rm_R_count).room s m args below meth c s.heap [] 0 0 (MQ below (vp_Si (fun z => r = z)) args s 0 0 (fun _ => False)) (F0 m 5 ls [])), ∀ (ls : Array Slot) (v1 : Int32) (v2 : Int32) (v4 : Int32) (z0 : Int32), lv_has ls 5 [(0, .ref h0), (1, .int v1), (2, .int v2), (4, .int v4)] → f_R_count_J33 rc us v1 v2 v4 z0 = some r → W p l e (headSpec ws_R_count rm_R_count).room s m args below meth c s.heap [] 0 0 (MQ below (vp_Si (fun z => r = z)) args s 0 0 (fun _ => False)) (F0 m 33 ls [.int z0]) := by
    intro rc hrec0
    intro ls v1 v2 v4 z0 hl hF
    have hF : (rc us v1 v2 z0 (v4 + (1 : Int32))) = some r := hF
    refine lv_istore_n hx hb d_R_count_33 rfl hl (by decide) rfl (fun ls hl => ?_)
    have hl : lv_has ls 5 [(3, .int z0), (0, .ref h0), (1, .int v1), (2, .int v2), (4, .int v4)] := hl
    refine lv_iinc (k := 4) (v := (v4 + (1 : Int32))) hx hb d_R_count_34 hl rfl rfl (by decide) rfl (fun ls hl => ?_)
    have hl : lv_has ls 5 [(4, .int (v4 + (1 : Int32))), (3, .int z0), (0, .ref h0), (1, .int v1), (2, .int v2)] := hl
    refine lv_goto hx hb d_R_count_37 (tgt := 5) (by decide) ?_
    exact hrec0 _ v1 v2 z0 (v4 + (1 : Int32)) (lv_sub hl [2, 3, 4, 1, 0] rfl) hF
  have LH : ∀ n : Nat, (∀ (ls : Array Slot) (v1 : Int32) (v2 : Int32) (v3 : Int32) (v4 : Int32), lv_has ls 5 [(0, .ref h0), (1, .int v1), (2, .int v2), (3, .int v3), (4, .int v4)] → f_R_count_H n us v1 v2 v3 v4 = some r → W p l e (headSpec ws_R_count rm_R_count).room s m args below meth c s.heap [] 0 0 (MQ below (vp_Si (fun z => r = z)) args s 0 0 (fun _ => False)) (F0 m 5 ls [])) := by
    intro n
    induction n with
    | zero =>
      exact (by intro ls v1 v2 v3 v4 hl hF; have hF : (none : Option (Int32)) = _ := hF; cases hF)
    | succ n ih =>
      have hrec0 := ih
      intro ls v1 v2 v3 v4 hl hF
      have hF : (if (4 : Int32) ≤ v4 then (some v3) else (if (((4 : Int32) * v1) + v4) < 0 ∨ 16 ≤ (((4 : Int32) * v1) + v4).toNatClampNeg then none else if (us (((4 : Int32) * v1) + v4).toNatClampNeg) = v2 then (f_R_count_J33 (f_R_count_H n) us v1 v2 v4 (v3 + (1 : Int32))) else (f_R_count_J33 (f_R_count_H n) us v1 v2 v4 v3))) = some r := hF
      refine lv_iload hx hb d_R_count_5 (lv_at hl 4 rfl) ?_
      refine lv_iconst (v := (4 : Int32)) hx hb d_R_count_7 (by decide) ?_
      refine lv_icmp_ge hx hb d_R_count_8 (tgt := 40) (by decide) (fun h8 => ?_) (fun h8 => ?_)
      · have hF := tx_t h8 hF
        refine lv_iload_n hx hb d_R_count_40 rfl (lv_at hl 3 rfl) ?_
        exact W.iret hx hb hr (fun t ht hW => ⟨_, rfl, (Option.some.inj hF).symm, ht⟩) (fun q h => by cases h) d_R_count_41
      · have hF := tx_f h8 hF
        refine lv_aload_n hx hb d_R_count_11 rfl (lv_at hl 0 rfl) ?_
        refine va_get (D := (dC, dI)) (ci := 2) (v := .ref q3) (C := "FlashStoreModel") (T := TR) (N := 11) hx hb hts inTR hown hK hP 0 rfl rfl 3 (by decide) w0 (fun _ h9 => h9) rfl d_R_count_12 ?_
        refine lv_iconst (v := (4 : Int32)) hx hb d_R_count_15 (by decide) ?_
        refine lv_iload_n hx hb d_R_count_16 rfl (lv_at hl 1 rfl) ?_
        refine lv_imul hx hb d_R_count_17 ?_
        refine lv_iload hx hb d_R_count_18 (lv_at hl 4 rfl) ?_
        refine lv_iadd hx hb d_R_count_20 ?_
        obtain ⟨hi21, hF⟩ := tx_g hF
        refine va_iald hx hb hK hP 3 0 rfl rfl hi21 d_R_count_21 ?_
        refine lv_iload_n hx hb d_R_count_22 rfl (lv_at hl 2 rfl) ?_
        refine lv_icmp_ne hx hb d_R_count_23 (tgt := 32) (by decide) (fun h23 => ?_) (fun h23 => ?_)
        · have hF := tx_f h23 hF
          refine lv_iload_n hx hb d_R_count_32 rfl (lv_at hl 3 rfl) ?_
          exact J33 _ hrec0 _ v1 v2 v4 v3 (lv_sub hl [0, 1, 2, 4] rfl) hF
        · have hF := tx_t h23 hF
          refine lv_iload_n hx hb d_R_count_26 rfl (lv_at hl 3 rfl) ?_
          refine lv_iconst (v := (1 : Int32)) hx hb d_R_count_27 (by decide) ?_
          refine lv_iadd hx hb d_R_count_28 ?_
          refine lv_goto hx hb d_R_count_29 (tgt := 33) (by decide) ?_
          exact J33 _ hrec0 _ v1 v2 v4 (v3 + (1 : Int32)) (lv_sub hl [0, 1, 2, 4] rfl) hF
  obtain hrec0 := LH 100
  have hF : (f_R_count_H 100 us a1 a2 (0 : Int32) (0 : Int32)) = some r := hF
  refine lv_iconst (v := (0 : Int32)) hx hb d_R_count_0 (by decide) ?_
  refine lv_istore_n hx hb d_R_count_1 rfl hl (by decide) rfl (fun ls hl => ?_)
  have hl : lv_has ls 5 [(3, .int (0 : Int32)), (0, .ref h0), (1, .int a1), (2, .int a2)] := hl
  refine lv_iconst (v := (0 : Int32)) hx hb d_R_count_2 (by decide) ?_
  refine lv_istore hx hb d_R_count_3 hl (by decide) rfl (fun ls hl => ?_)
  have hl : lv_has ls 5 [(4, .int (0 : Int32)), (3, .int (0 : Int32)), (0, .ref h0), (1, .int a1), (2, .int a2)] := hl
  exact hrec0 _ a1 a2 (0 : Int32) (0 : Int32) (lv_sub hl [2, 3, 4, 1, 0] rfl) hF
abbrev rm_R_empty : Room := { frames := 1, cells := 0, slots := 0, locals := 24 }
set_option maxHeartbeats 4000000 in
set_option maxRecDepth 100000 in
theorem c_R_empty (l : Launch) (dC : Nat → ClassId) (dI : Nat → Nat → Nat) (cA : ClassId) (h0 q1 q2 q3 q4 q5 q6 q7 : Nat) (rm fl us lg se we wh : Nat → Int32) (th nx md wr : Int32) (a1 : Int32) (r : Int32)  (hF : f_R_empty us a1 = some r) : Met l y_R_empty ws_R_empty rm_R_empty (tx_PR [.ref h0, .int a1] (dC, dI) [(cA, .int)] (wR cA h0 q1 q2 q3 q4 q5 q6 q7 rm fl us lg se we wh th nx md wr)) (vp_Si (fun z => r = z)) 0 0 (fun _ => False) := by
  refine Met.ofW (cc := b_R_empty) (maxL := 2) (ret := some .boolean) (by decide +kernel) rfl ?_
  intro p e s m args below meth c s₁ B hml hv
  obtain ⟨hargs, hP, hK⟩ := hv
  have hx := B.exec
  have hb := B.bytes
  have hr := B.returns
  have hts := atoms_spec (ws := ws_R_empty) B.pre
  have hown : s.vm.findClass "FlashStoreModel" = some m.cls := findClass_of_methodNamed B.named
  have hlocks := B.notSynchronized
  have hl := lv_entry ([.ref h0, .int a1]) (n := 2) (Nat.le_of_ble_eq_true rfl)
  have hen : entryFrame m args 2 = _ := (congrArg (fun z => entryFrame m z 2) hargs).trans (lg_entry_eq m ([.ref h0, .int a1]) 2)
  refine W.eq hen ?_
  clear hen
  generalize (lg_sl ([.ref h0, .int a1]) ++ List.replicate (2 - (lg_sl ([.ref h0, .int a1])).length) Slot.unset).toArray = ls at hl ⊢
  have hl : lv_has ls 2 [(0, .ref h0), (1, .int a1)] := hl
  have J15 : ∀ (ls : Array Slot) (z0 : Int32), lv_has ls 2 [] → f_R_empty_J15 us z0 = some r → W p l e (headSpec ws_R_empty rm_R_empty).room s m args below meth c s.heap [] 0 0 (MQ below (vp_Si (fun z => r = z)) args s 0 0 (fun _ => False)) (F0 m 15 ls [.int z0]) := by
    intro ls z0 hl hF
    have hF : (if ¬ (z0 = 0 ∨ z0 = 1) then none else some z0) = some r := hF
    obtain ⟨hz, hF⟩ := tx_g hF
    have hz := Classical.not_not.mp hz
    exact W.zret hx hb hr (tx_z hz) (fun t ht hW => ⟨_, rfl, (Option.some.inj hF).symm, ht⟩) (fun q h => by cases h) d_R_empty_15
  have hF : ((f_R_count us a1 (0 : Int32)).bind fun r3 => if r3 = (4 : Int32) then (f_R_empty_J15 us (1 : Int32)) else (f_R_empty_J15 us (0 : Int32))) = some r := hF
  refine lv_aload_n hx hb d_R_empty_0 rfl (lv_at hl 0 rfl) ?_
  refine lv_iload_n hx hb d_R_empty_1 rfl (lv_at hl 1 rfl) ?_
  refine lv_iconst (v := (0 : Int32)) hx hb d_R_empty_2 (by decide) ?_
  obtain ⟨r3, hc3, hF⟩ := tx_b hF
  refine vp_callSi (W.runV (As := [.int a1, .int (0 : Int32)]) (rest := []) ⟨hx, hb, hml, hown, hts⟩ (c_R_count l dC dI cA h0 q1 q2 q3 q4 q5 q6 q7 rm fl us lg se we wh th nx md wr a1 (0 : Int32) r3 hc3) (cwV 2 hts (tg_V bq_3_31 bq_3_33 bq_s_22 bq_1_4 bq_3_34) rfl rfl rfl (by decide +kernel) ⟨Nat.le_of_ble_eq_true rfl, Nat.le_of_ble_eq_true rfl⟩) ⟨tx_blR, (va_recv (ci := 2) (q0 := 0) hK hP rfl rfl), tx_preR (hP) hK⟩ rfl rfl hl.1 rfl (lv_room (Nat.le_of_ble_eq_true rfl)) d_R_empty_3 ⟨Nat.zero_le _, Nat.zero_le _⟩) (fun zz hz => ?_)
  subst hz
  refine lv_iconst (v := (4 : Int32)) hx hb d_R_empty_6 (by decide) ?_
  refine lv_icmp_ne hx hb d_R_empty_7 (tgt := 14) (by decide) (fun h7 => ?_) (fun h7 => ?_)
  · have hF := tx_f h7 hF
    refine lv_iconst (v := (0 : Int32)) hx hb d_R_empty_14 (by decide) ?_
    exact J15 _ (0 : Int32) (lv_sub hl [] rfl) hF
  · have hF := tx_t h7 hF
    refine lv_iconst (v := (1 : Int32)) hx hb d_R_empty_10 (by decide) ?_
    refine lv_goto hx hb d_R_empty_11 (tgt := 15) (by decide) ?_
    exact J15 _ (1 : Int32) (lv_sub hl [] rfl) hF
abbrev rm_R_placeBut : Room := { frames := 2, cells := 0, slots := 0, locals := 45 }
set_option maxHeartbeats 4000000 in
set_option maxRecDepth 100000 in
theorem c_R_placeBut (l : Launch) (dC : Nat → ClassId) (dI : Nat → Nat → Nat) (cA : ClassId) (h0 q1 q2 q3 q4 q5 q6 q7 : Nat) (rm fl us lg se we wh : Nat → Int32) (th nx md wr : Int32) (a1 : Int32) (r : Int32)  (hF : f_R_placeBut us a1 = some r) : Met l y_R_placeBut ws_R_placeBut rm_R_placeBut (tx_PR [.ref h0, .int a1] (dC, dI) [(cA, .int)] (wR cA h0 q1 q2 q3 q4 q5 q6 q7 rm fl us lg se we wh th nx md wr)) (vp_Si (fun z => r = z)) 0 0 (fun _ => False) := by
  refine Met.ofW (cc := b_R_placeBut) (maxL := 5) (ret := some .int) (by decide +kernel) rfl ?_
  intro p e s m args below meth c s₁ B hml hv
  obtain ⟨hargs, hP, hK⟩ := hv
  have hx := B.exec
  have hb := B.bytes
  have hr := B.returns
  have hts := atoms_spec (ws := ws_R_placeBut) B.pre
  have hown : s.vm.findClass "FlashStoreModel" = some m.cls := findClass_of_methodNamed B.named
  have hlocks := B.notSynchronized
  have w0 := (hts _ (List.mem_cons_of_mem _ bq_2_195))
  have hl := lv_entry ([.ref h0, .int a1]) (n := 5) (Nat.le_of_ble_eq_true rfl)
  have hen : entryFrame m args 5 = _ := (congrArg (fun z => entryFrame m z 5) hargs).trans (lg_entry_eq m ([.ref h0, .int a1]) 5)
  refine W.eq hen ?_
  clear hen
  generalize (lg_sl ([.ref h0, .int a1]) ++ List.replicate (5 - (lg_sl ([.ref h0, .int a1])).length) Slot.unset).toArray = ls at hl ⊢
  have hl : lv_has ls 5 [(0, .ref h0), (1, .int a1)] := hl
  have J56 : ∀ (rc : (Nat → Int32) → Nat → Int32 → Int32 → Int32 → Option (Int32)) (hrec0 : ∀ (ls : Array Slot) (v1 : Int32) (v2 : Int32), lv_has ls 5 [(0, .ref h0), (1, .int v1), (2, .int v2)] → rc us 0 v1 v2 0 = some r → W p l e (headSpec ws_R_placeBut rm_R_placeBut).room s m args below meth c s.heap [] 0 0 (MQ below (vp_Si (fun z => r = z)) args s 0 0 (fun _ => False)) (F0 m 2 ls [])) (hrec1 : ∀ (ls : Array Slot) (v1 : Int32) (v2 : Int32) (v3 : Int32), lv_has ls 5 [(0, .ref h0), (1, .int v1), (2, .int v2), (3, .int v3)] → rc us 1 v1 v2 v3 = some r → W p l e (headSpec ws_R_placeBut rm_R_placeBut).room s m args below meth c s.heap [] 0 0 (MQ below (vp_Si (fun z => r = z)) args s 0 0 (fun _ => False)) (F0 m 9 ls [])), ∀ (ls : Array Slot) (v1 : Int32) (v2 : Int32) (v3 : Int32), lv_has ls 5 [(0, .ref h0), (1, .int v1), (2, .int v2), (3, .int v3)] → f_R_placeBut_J56 rc us v1 v2 v3 = some r → W p l e (headSpec ws_R_placeBut rm_R_placeBut).room s m args below meth c s.heap [] 0 0 (MQ below (vp_Si (fun z => r = z)) args s 0 0 (fun _ => False)) (F0 m 56 ls []) := by
    intro rc hrec0 hrec1
    intro ls v1 v2 v3 hl hF
    have hF : (rc us 1 v1 v2 (v3 + (1 : Int32))) = some r := hF
    refine lv_iinc (k := 3) (v := (v3 + (1 : Int32))) hx hb d_R_placeBut_56 hl rfl rfl (by decide) rfl (fun ls hl => ?_)
    have hl : lv_has ls 5 [(3, .int (v3 + (1 : Int32))), (0, .ref h0), (1, .int v1), (2, .int v2)] := hl
    refine lv_goto hx hb d_R_placeBut_59 (tgt := 9) (by decide) ?_
    exact hrec1 _ v1 v2 (v3 + (1 : Int32)) (lv_sub hl [1, 2, 3, 0] rfl) hF
  have J51 : ∀ (rc : (Nat → Int32) → Nat → Int32 → Int32 → Int32 → Option (Int32)) (hrec0 : ∀ (ls : Array Slot) (v1 : Int32) (v2 : Int32), lv_has ls 5 [(0, .ref h0), (1, .int v1), (2, .int v2)] → rc us 0 v1 v2 0 = some r → W p l e (headSpec ws_R_placeBut rm_R_placeBut).room s m args below meth c s.heap [] 0 0 (MQ below (vp_Si (fun z => r = z)) args s 0 0 (fun _ => False)) (F0 m 2 ls [])) (hrec1 : ∀ (ls : Array Slot) (v1 : Int32) (v2 : Int32) (v3 : Int32), lv_has ls 5 [(0, .ref h0), (1, .int v1), (2, .int v2), (3, .int v3)] → rc us 1 v1 v2 v3 = some r → W p l e (headSpec ws_R_placeBut rm_R_placeBut).room s m args below meth c s.heap [] 0 0 (MQ below (vp_Si (fun z => r = z)) args s 0 0 (fun _ => False)) (F0 m 9 ls [])), ∀ (ls : Array Slot) (v1 : Int32) (v2 : Int32) (v3 : Int32) (z0 : Int32) (z1 : Int32), lv_has ls 5 [(0, .ref h0), (1, .int v1), (2, .int v2), (3, .int v3)] → f_R_placeBut_J51 rc us v1 v2 v3 z0 z1 = some r → W p l e (headSpec ws_R_placeBut rm_R_placeBut).room s m args below meth c s.heap [] 0 0 (MQ below (vp_Si (fun z => r = z)) args s 0 0 (fun _ => False)) (F0 m 51 ls [.int z0, .int z1]) := by
    intro rc hrec0 hrec1
    intro ls v1 v2 v3 z0 z1 hl hF
    have hF : (if z1 = z0 then (some v3) else (f_R_placeBut_J56 rc us v1 v2 v3)) = some r := hF
    refine lv_icmp_ne hx hb d_R_placeBut_51 (tgt := 56) (by decide) (fun h51 => ?_) (fun h51 => ?_)
    · have hF := tx_f h51 hF
      exact J56 _ hrec0 hrec1 _ v1 v2 v3 hl hF
    · have hF := tx_t h51 hF
      refine lv_iload_n hx hb d_R_placeBut_54 rfl (lv_at hl 3 rfl) ?_
      exact W.iret hx hb hr (fun t ht hW => ⟨_, rfl, (Option.some.inj hF).symm, ht⟩) (fun q h => by cases h) d_R_placeBut_55
  have LH : ∀ n : Nat, (∀ (ls : Array Slot) (v1 : Int32) (v2 : Int32), lv_has ls 5 [(0, .ref h0), (1, .int v1), (2, .int v2)] → f_R_placeBut_H n us 0 v1 v2 0 = some r → W p l e (headSpec ws_R_placeBut rm_R_placeBut).room s m args below meth c s.heap [] 0 0 (MQ below (vp_Si (fun z => r = z)) args s 0 0 (fun _ => False)) (F0 m 2 ls [])) ∧ (∀ (ls : Array Slot) (v1 : Int32) (v2 : Int32) (v3 : Int32), lv_has ls 5 [(0, .ref h0), (1, .int v1), (2, .int v2), (3, .int v3)] → f_R_placeBut_H n us 1 v1 v2 v3 = some r → W p l e (headSpec ws_R_placeBut rm_R_placeBut).room s m args below meth c s.heap [] 0 0 (MQ below (vp_Si (fun z => r = z)) args s 0 0 (fun _ => False)) (F0 m 9 ls [])) := by
    intro n
    induction n with
    | zero =>
      exact ⟨(by intro ls v1 v2 hl hF; have hF : (none : Option (Int32)) = _ := hF; cases hF), (by intro ls v1 v2 v3 hl hF; have hF : (none : Option (Int32)) = _ := hF; cases hF)⟩
    | succ n ih =>
      obtain ⟨hrec0, hrec1⟩ := ih
      refine ⟨?_, ?_⟩
      · intro ls v1 v2 hl hF
        have hF : (if (2 : Int32) ≤ v2 then (some (-1 : Int32)) else (f_R_placeBut_H n us 1 v1 v2 (0 : Int32))) = some r := hF
        refine lv_iload_n hx hb d_R_placeBut_2 rfl (lv_at hl 2 rfl) ?_
        refine lv_iconst (v := (2 : Int32)) hx hb d_R_placeBut_3 (by decide) ?_
        refine lv_icmp_ge hx hb d_R_placeBut_4 (tgt := 68) (by decide) (fun h4 => ?_) (fun h4 => ?_)
        · have hF := tx_t h4 hF
          refine lv_iconst (v := (-1 : Int32)) hx hb d_R_placeBut_68 (by decide) ?_
          exact W.iret hx hb hr (fun t ht hW => ⟨_, rfl, (Option.some.inj hF).symm, ht⟩) (fun q h => by cases h) d_R_placeBut_69
        · have hF := tx_f h4 hF
          refine lv_iconst (v := (0 : Int32)) hx hb d_R_placeBut_7 (by decide) ?_
          refine lv_istore_n hx hb d_R_placeBut_8 rfl hl (by decide) rfl (fun ls hl => ?_)
          have hl : lv_has ls 5 [(3, .int (0 : Int32)), (0, .ref h0), (1, .int v1), (2, .int v2)] := hl
          exact hrec1 _ v1 v2 (0 : Int32) (lv_sub hl [1, 2, 3, 0] rfl) hF
      · intro ls v1 v2 v3 hl hF
        have hF : (if (16 : Int32) ≤ v3 then (f_R_placeBut_H n us 0 v1 (v2 + (1 : Int32)) 0) else (if (v3 / (4 : Int32)) = v1 then (f_R_placeBut_J56 (f_R_placeBut_H n) us v1 v2 v3) else (if v3 < 0 ∨ 16 ≤ v3.toNatClampNeg then none else if (us v3.toNatClampNeg) = 0 then ((f_R_empty us (v3 / (4 : Int32))).bind fun r38 => if v2 = (1 : Int32) then (f_R_placeBut_J51 (f_R_placeBut_H n) us v1 v2 v3 (1 : Int32) r38) else (f_R_placeBut_J51 (f_R_placeBut_H n) us v1 v2 v3 (0 : Int32) r38)) else (f_R_placeBut_J56 (f_R_placeBut_H n) us v1 v2 v3)))) = some r := hF
        refine lv_iload_n hx hb d_R_placeBut_9 rfl (lv_at hl 3 rfl) ?_
        refine lv_bipush (v := (16 : Int32)) hx hb d_R_placeBut_10 (by decide) ?_
        refine lv_icmp_ge hx hb d_R_placeBut_12 (tgt := 62) (by decide) (fun h12 => ?_) (fun h12 => ?_)
        · have hF := tx_t h12 hF
          refine lv_iinc (k := 2) (v := (v2 + (1 : Int32))) hx hb d_R_placeBut_62 hl rfl rfl (by decide) rfl (fun ls hl => ?_)
          have hl : lv_has ls 5 [(2, .int (v2 + (1 : Int32))), (0, .ref h0), (1, .int v1), (3, .int v3)] := hl
          refine lv_goto hx hb d_R_placeBut_65 (tgt := 2) (by decide) ?_
          exact hrec0 _ v1 (v2 + (1 : Int32)) (lv_sub hl [1, 2, 0] rfl) hF
        · have hF := tx_f h12 hF
          refine lv_iload_n hx hb d_R_placeBut_15 rfl (lv_at hl 3 rfl) ?_
          refine lv_iconst (v := (4 : Int32)) hx hb d_R_placeBut_16 (by decide) ?_
          refine lv_idiv hx hb d_R_placeBut_17 (by decide) ?_
          refine lv_istore hx hb d_R_placeBut_18 hl (by decide) rfl (fun ls hl => ?_)
          have hl : lv_has ls 5 [(4, .int (v3 / (4 : Int32))), (0, .ref h0), (1, .int v1), (2, .int v2), (3, .int v3)] := hl
          refine lv_iload hx hb d_R_placeBut_20 (lv_at hl 0 rfl) ?_
          refine lv_iload_n hx hb d_R_placeBut_22 rfl (lv_at hl 2 rfl) ?_
          refine lv_icmp_eq hx hb d_R_placeBut_23 (tgt := 56) (by decide) (fun h23 => ?_) (fun h23 => ?_)
          · have hF := tx_t h23 hF
            exact J56 _ hrec0 hrec1 _ v1 v2 v3 (lv_sub hl [1, 2, 3, 4] rfl) hF
          · have hF := tx_f h23 hF
            refine lv_aload_n hx hb d_R_placeBut_26 rfl (lv_at hl 1 rfl) ?_
            refine va_get (D := (dC, dI)) (ci := 2) (v := .ref q3) (C := "FlashStoreModel") (T := TR) (N := 11) hx hb hts inTR hown hK hP 0 rfl rfl 3 (by decide) w0 (fun _ h9 => h9) rfl d_R_placeBut_27 ?_
            refine lv_iload_n hx hb d_R_placeBut_30 rfl (lv_at hl 4 rfl) ?_
            obtain ⟨hi31, hF⟩ := tx_g hF
            refine va_iald hx hb hK hP 3 0 rfl rfl hi31 d_R_placeBut_31 ?_
            refine lv_if_ne hx hb d_R_placeBut_32 (tgt := 56) (by decide) (fun h32 => ?_) (fun h32 => ?_)
            · have hF := tx_f h32 hF
              exact J56 _ hrec0 hrec1 _ v1 v2 v3 (lv_sub hl [1, 2, 3, 4] rfl) hF
            · have hF := tx_t h32 hF
              refine lv_aload_n hx hb d_R_placeBut_35 rfl (lv_at hl 1 rfl) ?_
              refine lv_iload hx hb d_R_placeBut_36 (lv_at hl 0 rfl) ?_
              obtain ⟨r38, hc38, hF⟩ := tx_b hF
              refine vp_callSi (W.runV (As := [.int (v3 / (4 : Int32))]) (rest := []) ⟨hx, hb, hml, hown, hts⟩ (c_R_empty l dC dI cA h0 q1 q2 q3 q4 q5 q6 q7 rm fl us lg se we wh th nx md wr (v3 / (4 : Int32)) r38 hc38) (cwV 1 hts (tg_V bq_3_35 bq_3_37 bq_s_23 bq_1_4 bq_3_38) rfl rfl rfl (by decide +kernel) ⟨Nat.le_of_ble_eq_true rfl, Nat.le_of_ble_eq_true rfl⟩) ⟨tx_blR, (va_recv (ci := 2) (q0 := 0) hK hP rfl rfl), tx_preR (hP) hK⟩ rfl rfl hl.1 rfl (lv_room (Nat.le_of_ble_eq_true rfl)) d_R_placeBut_38 ⟨Nat.zero_le _, Nat.zero_le _⟩) (fun zz hz => ?_)
              subst hz
              refine lv_iload_n hx hb d_R_placeBut_41 rfl (lv_at hl 3 rfl) ?_
              refine lv_iconst (v := (1 : Int32)) hx hb d_R_placeBut_42 (by decide) ?_
              refine lv_icmp_ne hx hb d_R_placeBut_43 (tgt := 50) (by decide) (fun h43 => ?_) (fun h43 => ?_)
              · have hF := tx_f h43 hF
                refine lv_iconst (v := (0 : Int32)) hx hb d_R_placeBut_50 (by decide) ?_
                exact J51 _ hrec0 hrec1 _ v1 v2 v3 (0 : Int32) r38 (lv_sub hl [1, 2, 3, 4] rfl) hF
              · have hF := tx_t h43 hF
                refine lv_iconst (v := (1 : Int32)) hx hb d_R_placeBut_46 (by decide) ?_
                refine lv_goto hx hb d_R_placeBut_47 (tgt := 51) (by decide) ?_
                exact J51 _ hrec0 hrec1 _ v1 v2 v3 (1 : Int32) r38 (lv_sub hl [1, 2, 3, 4] rfl) hF
  obtain ⟨hrec0, hrec1⟩ := LH 100
  have hF : (f_R_placeBut_H 100 us 0 a1 (0 : Int32) 0) = some r := hF
  refine lv_iconst (v := (0 : Int32)) hx hb d_R_placeBut_0 (by decide) ?_
  refine lv_istore_n hx hb d_R_placeBut_1 rfl hl (by decide) rfl (fun ls hl => ?_)
  have hl : lv_has ls 5 [(2, .int (0 : Int32)), (0, .ref h0), (1, .int a1)] := hl
  exact hrec0 _ a1 (0 : Int32) (lv_sub hl [1, 2, 0] rfl) hF
abbrev rm_R_put : Room := { frames := 3, cells := 0, slots := 0, locals := 67 }
set_option maxHeartbeats 4000000 in
set_option maxRecDepth 100000 in
theorem c_R_put (l : Launch) (dC : Nat → ClassId) (dI : Nat → Nat → Nat) (cA : ClassId) (h0 q1 q2 q3 q4 q5 q6 q7 sz : Nat) (rm fl us lg se we wh : Nat → Int32) (th nx md wr : Int32) (a1 : Int32) (a2 : Int32) (a3 : Int64) (fl' : Nat → Int32) (us' : Nat → Int32) (lg' : Nat → Int32) (se' : Nat → Int32) (wh' : Nat → Int32) (nx' : Int32) (hF : f_R_put rm fl us lg se wh nx a1 a2 a3 = some (fl', us', lg', se', wh', nx')) : Met l y_R_put ws_R_put rm_R_put (tx_PW [.ref h0, .int a1, .int a2, .long a3] (dC, dI) [(cA, .int)] (wR cA h0 q1 q2 q3 q4 q5 q6 q7 rm fl us lg se we wh th nx md wr) sz) (va_Qv (S := Unit) (fun _ => True) (fun _ t => va_P (dC, dI) vwCl (wR cA h0 q1 q2 q3 q4 q5 q6 q7 rm (fl') (us') (lg') (se') we (wh') th (nx') md wr) t.heap ∧ va_D (va_A (wR cA h0 q1 q2 q3 q4 q5 q6 q7 rm fl us lg se we wh th nx md wr) sz) (wR cA h0 q1 q2 q3 q4 q5 q6 q7 rm (fl') (us') (lg') (se') we (wh') th (nx') md wr)) (va_A (wR cA h0 q1 q2 q3 q4 q5 q6 q7 rm fl us lg se we wh th nx md wr) sz)) 0 0 (va_A (wR cA h0 q1 q2 q3 q4 q5 q6 q7 rm fl us lg se we wh th nx md wr) sz) := by
  refine Met.ofW (cc := b_R_put) (maxL := 6) (ret := none) (by decide +kernel) rfl ?_
  intro p e s m args below meth c s₁ B hml hv
  obtain ⟨hargs, hsz, hP, hK, hD0, hNw⟩ := hv
  have hx := B.exec
  have hb := B.bytes
  have hr := B.returns
  have hts := atoms_spec (ws := ws_R_put) B.pre
  have hown : s.vm.findClass "FlashStoreModel" = some m.cls := findClass_of_methodNamed B.named
  have hlocks := B.notSynchronized
  subst hsz
  have hD := hD0.self (sz := s.heap.size)
  generalize hAe : va_A (wR cA h0 q1 q2 q3 q4 q5 q6 q7 rm fl us lg se we wh th nx md wr) s.heap.size = A at hD ⊢
  have hA : ∀ q : Nat, s.heap.size ≤ q → A q := fun q h => by rw [← hAe]; exact Or.inr h
  have hS : va_S A s.heap s.heap [] := va_S.rf
  have hP : va_P (dC, dI) vwCl (wR cA h0 q1 q2 q3 q4 q5 q6 q7 rm fl us lg se we wh th nx md wr) s.heap := hP
  have w0 := (hts _ (List.mem_cons_of_mem _ bq_2_200))
  have w1 := (hts _ (List.mem_cons_of_mem _ bq_2_195))
  have w2 := (hts _ (List.mem_cons_of_mem _ bq_2_196))
  have w3 := (hts _ (List.mem_cons_of_mem _ bq_2_197))
  have w4 := hts (.constantLong "FlashStoreModel" 70 (65535 : Int64)) (by decide +kernel)
  have w5 := (hts _ (List.mem_cons_of_mem _ bq_2_199))
  have hl := lv_entry ([.ref h0, .int a1, .int a2, .long a3]) (n := 6) (Nat.le_of_ble_eq_true rfl)
  have hen : entryFrame m args 6 = _ := (congrArg (fun z => entryFrame m z 6) hargs).trans (lg_entry_eq m ([.ref h0, .int a1, .int a2, .long a3]) 6)
  refine W.eq hen ?_
  clear hen
  generalize (lg_sl ([.ref h0, .int a1, .int a2, .long a3]) ++ List.replicate (6 - (lg_sl ([.ref h0, .int a1, .int a2, .long a3])).length) Slot.unset).toArray = ls at hl ⊢
  have hl : lv_has ls 6 [(0, .ref h0), (1, .int a1), (2, .int a2), (3, .long a3)] := hl
  have J121 : ∀ (rc : (Nat → Int32) → (Nat → Int32) → (Nat → Int32) → (Nat → Int32) → (Nat → Int32) → (Nat → Int32) → Int32 → Int32 → Int32 → Int64 → Int32 → Option ((Nat → Int32) × (Nat → Int32) × (Nat → Int32) × (Nat → Int32) × (Nat → Int32) × Int32)) (hrec0 : ∀ (H : Heap) (locs : List Loc) (ls : Array Slot) (fl : Nat → Int32) (us : Nat → Int32) (lg : Nat → Int32) (se : Nat → Int32) (wh : Nat → Int32) (nx : Int32) (v1 : Int32) (v2 : Int32) (v3 : Int64) (v5 : Int32), va_P (dC, dI) vwCl (wR cA h0 q1 q2 q3 q4 q5 q6 q7 rm fl us lg se we wh th nx md wr) H → va_D A (wR cA h0 q1 q2 q3 q4 q5 q6 q7 rm fl us lg se we wh th nx md wr) → va_S A s.heap H locs → lv_has ls 6 [(0, .ref h0), (1, .int v1), (2, .int v2), (3, .long v3), (5, .int v5)] → rc rm fl us lg se wh nx v1 v2 v3 v5 = some (fl', us', lg', se', wh', nx') → W p l e (headSpec ws_R_put rm_R_put).room s m args below meth c H locs 0 0 (MQ below (va_Qv (S := Unit) (fun _ => True) (fun _ t => va_P (dC, dI) vwCl (wR cA h0 q1 q2 q3 q4 q5 q6 q7 rm (fl') (us') (lg') (se') we (wh') th (nx') md wr) t.heap ∧ va_D A (wR cA h0 q1 q2 q3 q4 q5 q6 q7 rm (fl') (us') (lg') (se') we (wh') th (nx') md wr)) A) args s 0 0 A) (F0 m 3 ls [])), ∀ (H : Heap) (locs : List Loc) (ls : Array Slot) (fl : Nat → Int32) (us : Nat → Int32) (lg : Nat → Int32) (se : Nat → Int32) (wh : Nat → Int32) (nx : Int32) (v1 : Int32) (v2 : Int32), va_P (dC, dI) vwCl (wR cA h0 q1 q2 q3 q4 q5 q6 q7 rm fl us lg se we wh th nx md wr) H → va_D A (wR cA h0 q1 q2 q3 q4 q5 q6 q7 rm fl us lg se we wh th nx md wr) → va_S A s.heap H locs → lv_has ls 6 [(0, .ref h0), (1, .int v1), (2, .int v2)] → f_R_put_J121 rc rm fl us lg se wh nx v1 v2 = some (fl', us', lg', se', wh', nx') → W p l e (headSpec ws_R_put rm_R_put).room s m args below meth c H locs 0 0 (MQ below (va_Qv (S := Unit) (fun _ => True) (fun _ t => va_P (dC, dI) vwCl (wR cA h0 q1 q2 q3 q4 q5 q6 q7 rm (fl') (us') (lg') (se') we (wh') th (nx') md wr) t.heap ∧ va_D A (wR cA h0 q1 q2 q3 q4 q5 q6 q7 rm (fl') (us') (lg') (se') we (wh') th (nx') md wr)) A) args s 0 0 A) (F0 m 121 ls []) := by
    intro rc hrec0
    intro H locs ls fl us lg se wh nx v1 v2 hP hD hS hl hF
    have hF : (if v2 < 0 ∨ 8 ≤ v2.toNatClampNeg then none else some (fl, us, lg, se, (upd wh v2.toNatClampNeg (v1 + (1 : Int32))), nx)) = some (fl', us', lg', se', wh', nx') := hF
    refine lv_aload_n hx hb d_R_put_121 rfl (lv_at hl 0 rfl) ?_
    refine va_get (D := (dC, dI)) (ci := 2) (v := .ref q7) (C := "FlashStoreModel") (T := TR) (N := 11) hx hb hts inTR hown hK hP 0 rfl rfl 7 (by decide) w5 (fun _ h9 => h9) rfl d_R_put_122 ?_
    refine lv_iload_n hx hb d_R_put_125 rfl (lv_at hl 2 rfl) ?_
    refine lv_iload_n hx hb d_R_put_126 rfl (lv_at hl 1 rfl) ?_
    refine lv_iconst (v := (1 : Int32)) hx hb d_R_put_127 (by decide) ?_
    refine lv_iadd hx hb d_R_put_128 ?_
    obtain ⟨hi129, hF⟩ := tx_g hF
    refine va_iast hx hb hK hP hD hS 7 0 rfl rfl hi129 d_R_put_129 (fun H locs hP hD hS => ?_)
    have hP : va_P (dC, dI) vwCl (wR cA h0 q1 q2 q3 q4 q5 q6 q7 rm fl us lg se we (upd wh v2.toNatClampNeg (v1 + (1 : Int32))) th nx md wr) H := hP
    have hD : va_D A (wR cA h0 q1 q2 q3 q4 q5 q6 q7 rm fl us lg se we (upd wh v2.toNatClampNeg (v1 + (1 : Int32))) th nx md wr) := hD
    cases hF
    exact W.vret hx hb hr (fun t ht hW => ⟨⟨(), rfl, trivial, by rw [ht]; exact hP, hD⟩, hS.F ht⟩) hS.2.2 d_R_put_130
  have J95 : ∀ (rc : (Nat → Int32) → (Nat → Int32) → (Nat → Int32) → (Nat → Int32) → (Nat → Int32) → (Nat → Int32) → Int32 → Int32 → Int32 → Int64 → Int32 → Option ((Nat → Int32) × (Nat → Int32) × (Nat → Int32) × (Nat → Int32) × (Nat → Int32) × Int32)) (hrec0 : ∀ (H : Heap) (locs : List Loc) (ls : Array Slot) (fl : Nat → Int32) (us : Nat → Int32) (lg : Nat → Int32) (se : Nat → Int32) (wh : Nat → Int32) (nx : Int32) (v1 : Int32) (v2 : Int32) (v3 : Int64) (v5 : Int32), va_P (dC, dI) vwCl (wR cA h0 q1 q2 q3 q4 q5 q6 q7 rm fl us lg se we wh th nx md wr) H → va_D A (wR cA h0 q1 q2 q3 q4 q5 q6 q7 rm fl us lg se we wh th nx md wr) → va_S A s.heap H locs → lv_has ls 6 [(0, .ref h0), (1, .int v1), (2, .int v2), (3, .long v3), (5, .int v5)] → rc rm fl us lg se wh nx v1 v2 v3 v5 = some (fl', us', lg', se', wh', nx') → W p l e (headSpec ws_R_put rm_R_put).room s m args below meth c H locs 0 0 (MQ below (va_Qv (S := Unit) (fun _ => True) (fun _ t => va_P (dC, dI) vwCl (wR cA h0 q1 q2 q3 q4 q5 q6 q7 rm (fl') (us') (lg') (se') we (wh') th (nx') md wr) t.heap ∧ va_D A (wR cA h0 q1 q2 q3 q4 q5 q6 q7 rm (fl') (us') (lg') (se') we (wh') th (nx') md wr)) A) args s 0 0 A) (F0 m 3 ls [])), ∀ (H : Heap) (locs : List Loc) (ls : Array Slot) (fl : Nat → Int32) (us : Nat → Int32) (lg : Nat → Int32) (se : Nat → Int32) (wh : Nat → Int32) (nx : Int32) (v1 : Int32) (v2 : Int32) (z0 : Int32), va_P (dC, dI) vwCl (wR cA h0 q1 q2 q3 q4 q5 q6 q7 rm fl us lg se we wh th nx md wr) H → va_D A (wR cA h0 q1 q2 q3 q4 q5 q6 q7 rm fl us lg se we wh th nx md wr) → va_S A s.heap H locs → lv_has ls 6 [(0, .ref h0), (1, .int v1), (2, .int v2)] → f_R_put_J95 rc rm fl us lg se wh nx v1 v2 z0 = some (fl', us', lg', se', wh', nx') → W p l e (headSpec ws_R_put rm_R_put).room s m args below meth c H locs 0 0 (MQ below (va_Qv (S := Unit) (fun _ => True) (fun _ t => va_P (dC, dI) vwCl (wR cA h0 q1 q2 q3 q4 q5 q6 q7 rm (fl') (us') (lg') (se') we (wh') th (nx') md wr) t.heap ∧ va_D A (wR cA h0 q1 q2 q3 q4 q5 q6 q7 rm (fl') (us') (lg') (se') we (wh') th (nx') md wr)) A) args s 0 0 A) (F0 m 95 ls [.int z0, .ref h0]) := by
    intro rc hrec0
    intro H locs ls fl us lg se wh nx v1 v2 z0 hP hD hS hl hF
    have hF : (if v2 < 0 ∨ 8 ≤ v2.toNatClampNeg then none else if (wh v2.toNatClampNeg) ≤ 0 then (f_R_put_J121 rc rm fl us lg se wh z0 v1 v2) else (if ((wh v2.toNatClampNeg) - (1 : Int32)) < 0 ∨ 16 ≤ ((wh v2.toNatClampNeg) - (1 : Int32)).toNatClampNeg then none else f_R_put_J121 rc rm fl (upd us ((wh v2.toNatClampNeg) - (1 : Int32)).toNatClampNeg (2 : Int32)) lg se wh z0 v1 v2)) = some (fl', us', lg', se', wh', nx') := hF
    refine va_put (D := (dC, dI)) (ci := 2) (v := .int z0) (ty := .int) (C := "FlashStoreModel") (T := TR) (N := 11) hx hb hts inTR tyTR tyTR_ok nmTR hown hK hP hD hS 0 rfl rfl 8 (by decide) w0 (fun _ h9 => h9) rfl (by decide +kernel) rfl rfl (Nat.le_of_ble_eq_true rfl) d_R_put_95 (fun H locs hP hD hS => ?_)
    have hP : va_P (dC, dI) vwCl (wR cA h0 q1 q2 q3 q4 q5 q6 q7 rm fl us lg se we wh th z0 md wr) H := hP
    have hD : va_D A (wR cA h0 q1 q2 q3 q4 q5 q6 q7 rm fl us lg se we wh th z0 md wr) := hD
    refine lv_aload_n hx hb d_R_put_98 rfl (lv_at hl 0 rfl) ?_
    refine va_get (D := (dC, dI)) (ci := 2) (v := .ref q7) (C := "FlashStoreModel") (T := TR) (N := 11) hx hb hts inTR hown hK hP 0 rfl rfl 7 (by decide) w5 (fun _ h9 => h9) rfl d_R_put_99 ?_
    refine lv_iload_n hx hb d_R_put_102 rfl (lv_at hl 2 rfl) ?_
    obtain ⟨hi103, hF⟩ := tx_g hF
    refine va_iald hx hb hK hP 7 0 rfl rfl hi103 d_R_put_103 ?_
    refine lv_if_le hx hb d_R_put_104 (tgt := 121) (by decide) (fun h104 => ?_) (fun h104 => ?_)
    · have hF := tx_t h104 hF
      exact J121 _ hrec0 _ _ _ fl us lg se wh z0 v1 v2 hP hD hS hl hF
    · have hF := tx_f h104 hF
      refine lv_aload_n hx hb d_R_put_107 rfl (lv_at hl 0 rfl) ?_
      refine va_get (D := (dC, dI)) (ci := 2) (v := .ref q3) (C := "FlashStoreModel") (T := TR) (N := 11) hx hb hts inTR hown hK hP 0 rfl rfl 3 (by decide) w1 (fun _ h9 => h9) rfl d_R_put_108 ?_
      refine lv_aload_n hx hb d_R_put_111 rfl (lv_at hl 0 rfl) ?_
      refine va_get (D := (dC, dI)) (ci := 2) (v := .ref q7) (C := "FlashStoreModel") (T := TR) (N := 11) hx hb hts inTR hown hK hP 0 rfl rfl 7 (by decide) w5 (fun _ h9 => h9) rfl d_R_put_112 ?_
      refine lv_iload_n hx hb d_R_put_115 rfl (lv_at hl 2 rfl) ?_
      refine va_iald hx hb hK hP 7 0 rfl rfl hi103 d_R_put_116 ?_
      refine lv_iconst (v := (1 : Int32)) hx hb d_R_put_117 (by decide) ?_
      refine lv_isub hx hb d_R_put_118 ?_
      refine lv_iconst (v := (2 : Int32)) hx hb d_R_put_119 (by decide) ?_
      obtain ⟨hi120, hF⟩ := tx_g hF
      refine va_iast hx hb hK hP hD hS 3 0 rfl rfl hi120 d_R_put_120 (fun H locs hP hD hS => ?_)
      have hP : va_P (dC, dI) vwCl (wR cA h0 q1 q2 q3 q4 q5 q6 q7 rm fl (upd us ((wh v2.toNatClampNeg) - (1 : Int32)).toNatClampNeg (2 : Int32)) lg se we wh th z0 md wr) H := hP
      have hD : va_D A (wR cA h0 q1 q2 q3 q4 q5 q6 q7 rm fl (upd us ((wh v2.toNatClampNeg) - (1 : Int32)).toNatClampNeg (2 : Int32)) lg se we wh th z0 md wr) := hD
      exact J121 _ hrec0 _ _ _ fl (upd us ((wh v2.toNatClampNeg) - (1 : Int32)).toNatClampNeg (2 : Int32)) lg se wh z0 v1 v2 hP hD hS hl hF
  have LH : ∀ n : Nat, (∀ (H : Heap) (locs : List Loc) (ls : Array Slot) (fl : Nat → Int32) (us : Nat → Int32) (lg : Nat → Int32) (se : Nat → Int32) (wh : Nat → Int32) (nx : Int32) (v1 : Int32) (v2 : Int32) (v3 : Int64) (v5 : Int32), va_P (dC, dI) vwCl (wR cA h0 q1 q2 q3 q4 q5 q6 q7 rm fl us lg se we wh th nx md wr) H → va_D A (wR cA h0 q1 q2 q3 q4 q5 q6 q7 rm fl us lg se we wh th nx md wr) → va_S A s.heap H locs → lv_has ls 6 [(0, .ref h0), (1, .int v1), (2, .int v2), (3, .long v3), (5, .int v5)] → f_R_put_H n rm fl us lg se wh nx v1 v2 v3 v5 = some (fl', us', lg', se', wh', nx') → W p l e (headSpec ws_R_put rm_R_put).room s m args below meth c H locs 0 0 (MQ below (va_Qv (S := Unit) (fun _ => True) (fun _ t => va_P (dC, dI) vwCl (wR cA h0 q1 q2 q3 q4 q5 q6 q7 rm (fl') (us') (lg') (se') we (wh') th (nx') md wr) t.heap ∧ va_D A (wR cA h0 q1 q2 q3 q4 q5 q6 q7 rm (fl') (us') (lg') (se') we (wh') th (nx') md wr)) A) args s 0 0 A) (F0 m 3 ls [])) := by
    intro n
    induction n with
    | zero =>
      exact (by intro H locs ls fl us lg se wh nx v1 v2 v3 v5 hP hD hS hl hF; have hF : (none : Option ((Nat → Int32) × (Nat → Int32) × (Nat → Int32) × (Nat → Int32) × (Nat → Int32) × Int32)) = _ := hF; cases hF)
    | succ n ih =>
      have hrec0 := ih
      intro H locs ls fl us lg se wh nx v1 v2 v3 v5 hP hD hS hl hF
      have hF : (if (4 : Int32) ≤ v5 then ((f_R_program rm fl v1 (4 : Int32) (((4096 : Int32) * v2) + nx)).bind fun fl47 => if v1 < 0 ∨ 16 ≤ v1.toNatClampNeg then none else if nx = (4094 : Int32) then (f_R_put_J95 (f_R_put_H n) rm fl47 (upd us v1.toNatClampNeg (1 : Int32)) (upd lg v1.toNatClampNeg v2) (upd se v1.toNatClampNeg nx) wh nx v1 v2 (0 : Int32)) else (f_R_put_J95 (f_R_put_H n) rm fl47 (upd us v1.toNatClampNeg (1 : Int32)) (upd lg v1.toNatClampNeg v2) (upd se v1.toNatClampNeg nx) wh nx v1 v2 (nx + (1 : Int32)))) else ((f_R_program rm fl v1 v5 (((v3 >>> (((16 : Int32) * v5).toInt64 &&& 63)) &&& (65535 : Int64)).toInt32)).bind fun fl25 => f_R_put_H n rm fl25 us lg se wh nx v1 v2 v3 (v5 + (1 : Int32)))) = some (fl', us', lg', se', wh', nx') := hF
      refine lv_iload hx hb d_R_put_3 (lv_at hl 4 rfl) ?_
      refine lv_iconst (v := (4 : Int32)) hx hb d_R_put_5 (by decide) ?_
      refine lv_icmp_ge hx hb d_R_put_6 (tgt := 34) (by decide) (fun h6 => ?_) (fun h6 => ?_)
      · have hF := tx_t h6 hF
        refine lv_aload_n hx hb d_R_put_34 rfl (lv_at hl 0 rfl) ?_
        refine lv_iload_n hx hb d_R_put_35 rfl (lv_at hl 1 rfl) ?_
        refine lv_iconst (v := (4 : Int32)) hx hb d_R_put_36 (by decide) ?_
        refine lv_sipush (v := (4096 : Int32)) hx hb d_R_put_37 (by decide) ?_
        refine lv_iload_n hx hb d_R_put_40 rfl (lv_at hl 2 rfl) ?_
        refine lv_imul hx hb d_R_put_41 ?_
        refine lv_aload_n hx hb d_R_put_42 rfl (lv_at hl 0 rfl) ?_
        refine va_get (D := (dC, dI)) (ci := 2) (v := .int nx) (C := "FlashStoreModel") (T := TR) (N := 11) hx hb hts inTR hown hK hP 0 rfl rfl 8 (by decide) w0 (fun _ h9 => h9) rfl d_R_put_43 ?_
        refine lv_iadd hx hb d_R_put_46 ?_
        obtain ⟨fl47, hc47, hF⟩ := tx_b hF
        have hPc := hP.sub (ws' := (wR cA h0 q1 q2 q3 q4 q5 q6 q7 rm fl us lg se we wh th nx md wr)) [0, 1, 2, 3, 4, 5, 6, 7] rfl
        have hDc := hD.sub (ws' := (wR cA h0 q1 q2 q3 q4 q5 q6 q7 rm fl us lg se we wh th nx md wr)) [0, 1, 2, 3, 4, 5, 6, 7] (by decide) rfl
        have hFc := va_free (wc := (wR cA h0 q1 q2 q3 q4 q5 q6 q7 rm fl us lg se we wh th nx md wr)) hD hS hA [0, 1, 2, 3, 4, 5, 6, 7] rfl
        refine va_callv (va_runV (As := [.int v1, .int (4 : Int32), .int (((4096 : Int32) * v2) + nx)]) (rest := []) ⟨hx, hb, hml, hown, hts⟩ (c_R_program l dC dI cA h0 q1 q2 q3 q4 q5 q6 q7 H.size rm fl us lg se we wh th nx md wr v1 (4 : Int32) (((4096 : Int32) * v2) + nx) fl47 hc47) (cwV 3 hts (tg_V bq_3_60 bq_3_62 bq_s_29 bq_1_4 bq_3_63) rfl rfl rfl (by decide +kernel) ⟨Nat.le_of_ble_eq_true rfl, Nat.le_of_ble_eq_true rfl⟩) ⟨tx_blW, (va_recv (ci := 2) (q0 := 0) hK hP rfl rfl), tx_preW hPc hDc hK hNw⟩ rfl rfl hl.1 rfl (lv_room (Nat.le_of_ble_eq_true rfl)) d_R_put_47 ⟨Nat.zero_le _, Nat.zero_le _⟩) hS (fun q _ h => hFc q h) hFc (fun _u t H locs ht hvm hw hB hz1 hk1 hS => ?_)
        obtain ⟨hP1, hD1⟩ := hB
        rw [ht] at hP1
        obtain ⟨hP2, hD2⟩ := va_join (wr := []) (w1 := (wR cA h0 q1 q2 q3 q4 q5 q6 q7 rm fl47 us lg se we wh th nx md wr)) hP hD [0, 1, 2, 3, 4, 5, 6, 7] [] rfl rfl (by decide) (by decide) hk1 hFc hP1 hD1
        have hP := hP2.sub (ws' := (wR cA h0 q1 q2 q3 q4 q5 q6 q7 rm fl47 us lg se we wh th nx md wr)) [0, 1, 2, 3, 4, 5, 6, 7] rfl
        have hD := hD2.sub (ws' := (wR cA h0 q1 q2 q3 q4 q5 q6 q7 rm fl47 us lg se we wh th nx md wr)) [0, 1, 2, 3, 4, 5, 6, 7] (by decide) rfl
        refine lv_aload_n hx hb d_R_put_50 rfl (lv_at hl 0 rfl) ?_
        refine va_get (D := (dC, dI)) (ci := 2) (v := .ref q3) (C := "FlashStoreModel") (T := TR) (N := 11) hx hb hts inTR hown hK hP 0 rfl rfl 3 (by decide) w1 (fun _ h9 => h9) rfl d_R_put_51 ?_
        refine lv_iload_n hx hb d_R_put_54 rfl (lv_at hl 1 rfl) ?_
        refine lv_iconst (v := (1 : Int32)) hx hb d_R_put_55 (by decide) ?_
        obtain ⟨hi56, hF⟩ := tx_g hF
        refine va_iast hx hb hK hP hD hS 3 0 rfl rfl hi56 d_R_put_56 (fun H locs hP hD hS => ?_)
        have hP : va_P (dC, dI) vwCl (wR cA h0 q1 q2 q3 q4 q5 q6 q7 rm fl47 (upd us v1.toNatClampNeg (1 : Int32)) lg se we wh th nx md wr) H := hP
        have hD : va_D A (wR cA h0 q1 q2 q3 q4 q5 q6 q7 rm fl47 (upd us v1.toNatClampNeg (1 : Int32)) lg se we wh th nx md wr) := hD
        refine lv_aload_n hx hb d_R_put_57 rfl (lv_at hl 0 rfl) ?_
        refine va_get (D := (dC, dI)) (ci := 2) (v := .ref q4) (C := "FlashStoreModel") (T := TR) (N := 11) hx hb hts inTR hown hK hP 0 rfl rfl 4 (by decide) w2 (fun _ h9 => h9) rfl d_R_put_58 ?_
        refine lv_iload_n hx hb d_R_put_61 rfl (lv_at hl 1 rfl) ?_
        refine lv_iload_n hx hb d_R_put_62 rfl (lv_at hl 2 rfl) ?_
        refine va_iast hx hb hK hP hD hS 4 0 rfl rfl hi56 d_R_put_63 (fun H locs hP hD hS => ?_)
        have hP : va_P (dC, dI) vwCl (wR cA h0 q1 q2 q3 q4 q5 q6 q7 rm fl47 (upd us v1.toNatClampNeg (1 : Int32)) (upd lg v1.toNatClampNeg v2) se we wh th nx md wr) H := hP
        have hD : va_D A (wR cA h0 q1 q2 q3 q4 q5 q6 q7 rm fl47 (upd us v1.toNatClampNeg (1 : Int32)) (upd lg v1.toNatClampNeg v2) se we wh th nx md wr) := hD
        refine lv_aload_n hx hb d_R_put_64 rfl (lv_at hl 0 rfl) ?_
        refine va_get (D := (dC, dI)) (ci := 2) (v := .ref q5) (C := "FlashStoreModel") (T := TR) (N := 11) hx hb hts inTR hown hK hP 0 rfl rfl 5 (by decide) w3 (fun _ h9 => h9) rfl d_R_put_65 ?_
        refine lv_iload_n hx hb d_R_put_68 rfl (lv_at hl 1 rfl) ?_
        refine lv_aload_n hx hb d_R_put_69 rfl (lv_at hl 0 rfl) ?_
        refine va_get (D := (dC, dI)) (ci := 2) (v := .int nx) (C := "FlashStoreModel") (T := TR) (N := 11) hx hb hts inTR hown hK hP 0 rfl rfl 8 (by decide) w0 (fun _ h9 => h9) rfl d_R_put_70 ?_
        refine va_iast hx hb hK hP hD hS 5 0 rfl rfl hi56 d_R_put_73 (fun H locs hP hD hS => ?_)
        have hP : va_P (dC, dI) vwCl (wR cA h0 q1 q2 q3 q4 q5 q6 q7 rm fl47 (upd us v1.toNatClampNeg (1 : Int32)) (upd lg v1.toNatClampNeg v2) (upd se v1.toNatClampNeg nx) we wh th nx md wr) H := hP
        have hD : va_D A (wR cA h0 q1 q2 q3 q4 q5 q6 q7 rm fl47 (upd us v1.toNatClampNeg (1 : Int32)) (upd lg v1.toNatClampNeg v2) (upd se v1.toNatClampNeg nx) we wh th nx md wr) := hD
        refine lv_aload_n hx hb d_R_put_74 rfl (lv_at hl 0 rfl) ?_
        refine lv_aload_n hx hb d_R_put_75 rfl (lv_at hl 0 rfl) ?_
        refine va_get (D := (dC, dI)) (ci := 2) (v := .int nx) (C := "FlashStoreModel") (T := TR) (N := 11) hx hb hts inTR hown hK hP 0 rfl rfl 8 (by decide) w0 (fun _ h9 => h9) rfl d_R_put_76 ?_
        refine lv_sipush (v := (4094 : Int32)) hx hb d_R_put_79 (by decide) ?_
        refine lv_icmp_ne hx hb d_R_put_82 (tgt := 89) (by decide) (fun h82 => ?_) (fun h82 => ?_)
        · have hF := tx_f h82 hF
          refine lv_aload_n hx hb d_R_put_89 rfl (lv_at hl 0 rfl) ?_
          refine va_get (D := (dC, dI)) (ci := 2) (v := .int nx) (C := "FlashStoreModel") (T := TR) (N := 11) hx hb hts inTR hown hK hP 0 rfl rfl 8 (by decide) w0 (fun _ h9 => h9) rfl d_R_put_90 ?_
          refine lv_iconst (v := (1 : Int32)) hx hb d_R_put_93 (by decide) ?_
          refine lv_iadd hx hb d_R_put_94 ?_
          exact J95 _ hrec0 _ _ _ fl47 (upd us v1.toNatClampNeg (1 : Int32)) (upd lg v1.toNatClampNeg v2) (upd se v1.toNatClampNeg nx) wh nx v1 v2 (nx + (1 : Int32)) hP hD hS (lv_sub hl [0, 1, 2] rfl) hF
        · have hF := tx_t h82 hF
          refine lv_iconst (v := (0 : Int32)) hx hb d_R_put_85 (by decide) ?_
          refine lv_goto hx hb d_R_put_86 (tgt := 95) (by decide) ?_
          exact J95 _ hrec0 _ _ _ fl47 (upd us v1.toNatClampNeg (1 : Int32)) (upd lg v1.toNatClampNeg v2) (upd se v1.toNatClampNeg nx) wh nx v1 v2 (0 : Int32) hP hD hS (lv_sub hl [0, 1, 2] rfl) hF
      · have hF := tx_f h6 hF
        refine lv_aload_n hx hb d_R_put_9 rfl (lv_at hl 0 rfl) ?_
        refine lv_iload_n hx hb d_R_put_10 rfl (lv_at hl 1 rfl) ?_
        refine lv_iload hx hb d_R_put_11 (lv_at hl 4 rfl) ?_
        refine lv_lload_n hx hb d_R_put_13 rfl (lv_at hl 3 rfl) ?_
        refine lv_bipush (v := (16 : Int32)) hx hb d_R_put_14 (by decide) ?_
        refine lv_iload hx hb d_R_put_16 (lv_at hl 4 rfl) ?_
        refine lv_imul hx hb d_R_put_18 ?_
        refine lv_lshr hx hb d_R_put_19 rfl ?_
        refine lv_ldc2 hx hb hown w4 d_R_put_20 ?_
        refine lv_land hx hb d_R_put_23 ?_
        refine lv_l2i hx hb d_R_put_24 rfl ?_
        obtain ⟨fl25, hc25, hF⟩ := tx_b hF
        have hPc := hP.sub (ws' := (wR cA h0 q1 q2 q3 q4 q5 q6 q7 rm fl us lg se we wh th nx md wr)) [0, 1, 2, 3, 4, 5, 6, 7] rfl
        have hDc := hD.sub (ws' := (wR cA h0 q1 q2 q3 q4 q5 q6 q7 rm fl us lg se we wh th nx md wr)) [0, 1, 2, 3, 4, 5, 6, 7] (by decide) rfl
        have hFc := va_free (wc := (wR cA h0 q1 q2 q3 q4 q5 q6 q7 rm fl us lg se we wh th nx md wr)) hD hS hA [0, 1, 2, 3, 4, 5, 6, 7] rfl
        refine va_callv (va_runV (As := [.int v1, .int v5, .int (((v3 >>> (((16 : Int32) * v5).toInt64 &&& 63)) &&& (65535 : Int64)).toInt32)]) (rest := []) ⟨hx, hb, hml, hown, hts⟩ (c_R_program l dC dI cA h0 q1 q2 q3 q4 q5 q6 q7 H.size rm fl us lg se we wh th nx md wr v1 v5 (((v3 >>> (((16 : Int32) * v5).toInt64 &&& 63)) &&& (65535 : Int64)).toInt32) fl25 hc25) (cwV 3 hts (tg_V bq_3_60 bq_3_62 bq_s_29 bq_1_4 bq_3_63) rfl rfl rfl (by decide +kernel) ⟨Nat.le_of_ble_eq_true rfl, Nat.le_of_ble_eq_true rfl⟩) ⟨tx_blW, (va_recv (ci := 2) (q0 := 0) hK hP rfl rfl), tx_preW hPc hDc hK hNw⟩ rfl rfl hl.1 rfl (lv_room (Nat.le_of_ble_eq_true rfl)) d_R_put_25 ⟨Nat.zero_le _, Nat.zero_le _⟩) hS (fun q _ h => hFc q h) hFc (fun _u t H locs ht hvm hw hB hz1 hk1 hS => ?_)
        obtain ⟨hP1, hD1⟩ := hB
        rw [ht] at hP1
        obtain ⟨hP2, hD2⟩ := va_join (wr := []) (w1 := (wR cA h0 q1 q2 q3 q4 q5 q6 q7 rm fl25 us lg se we wh th nx md wr)) hP hD [0, 1, 2, 3, 4, 5, 6, 7] [] rfl rfl (by decide) (by decide) hk1 hFc hP1 hD1
        have hP := hP2.sub (ws' := (wR cA h0 q1 q2 q3 q4 q5 q6 q7 rm fl25 us lg se we wh th nx md wr)) [0, 1, 2, 3, 4, 5, 6, 7] rfl
        have hD := hD2.sub (ws' := (wR cA h0 q1 q2 q3 q4 q5 q6 q7 rm fl25 us lg se we wh th nx md wr)) [0, 1, 2, 3, 4, 5, 6, 7] (by decide) rfl
        refine lv_iinc (k := 4) (v := (v5 + (1 : Int32))) hx hb d_R_put_28 hl rfl rfl (by decide) rfl (fun ls hl => ?_)
        have hl : lv_has ls 6 [(5, .int (v5 + (1 : Int32))), (0, .ref h0), (1, .int v1), (2, .int v2), (3, .long v3)] := hl
        refine lv_goto hx hb d_R_put_31 (tgt := 3) (by decide) ?_
        exact hrec0 _ _ _ fl25 us lg se wh nx v1 v2 v3 (v5 + (1 : Int32)) hP hD hS (lv_sub hl [1, 2, 3, 4, 0] rfl) hF
  obtain hrec0 := LH 100
  have hF : (f_R_put_H 100 rm fl us lg se wh nx a1 a2 a3 (0 : Int32)) = some (fl', us', lg', se', wh', nx') := hF
  refine lv_iconst (v := (0 : Int32)) hx hb d_R_put_0 (by decide) ?_
  refine lv_istore hx hb d_R_put_1 hl (by decide) rfl (fun ls hl => ?_)
  have hl : lv_has ls 6 [(5, .int (0 : Int32)), (0, .ref h0), (1, .int a1), (2, .int a2), (3, .long a3)] := hl
  exact hrec0 _ _ _ fl us lg se wh nx a1 a2 a3 (0 : Int32) hP hD hS (lv_sub hl [1, 2, 3, 4, 0] rfl) hF
abbrev rm_R_leavesOne : Room := { frames := 2, cells := 0, slots := 0, locals := 45 }
set_option maxHeartbeats 4000000 in
set_option maxRecDepth 100000 in
theorem c_R_leavesOne (l : Launch) (dC : Nat → ClassId) (dI : Nat → Nat → Nat) (cA : ClassId) (h0 q1 q2 q3 q4 q5 q6 q7 : Nat) (rm fl us lg se we wh : Nat → Int32) (th nx md wr : Int32) (a1 : Int32) (r : Int32)  (hF : f_R_leavesOne us a1 = some r) : Met l y_R_leavesOne ws_R_leavesOne rm_R_leavesOne (tx_PR [.ref h0, .int a1] (dC, dI) [(cA, .int)] (wR cA h0 q1 q2 q3 q4 q5 q6 q7 rm fl us lg se we wh th nx md wr)) (vp_Si (fun z => r = z)) 0 0 (fun _ => False) := by
  refine Met.ofW (cc := b_R_leavesOne) (maxL := 4) (ret := some .boolean) (by decide +kernel) rfl ?_
  intro p e s m args below meth c s₁ B hml hv
  obtain ⟨hargs, hP, hK⟩ := hv
  have hx := B.exec
  have hb := B.bytes
  have hr := B.returns
  have hts := atoms_spec (ws := ws_R_leavesOne) B.pre
  have hown : s.vm.findClass "FlashStoreModel" = some m.cls := findClass_of_methodNamed B.named
  have hlocks := B.notSynchronized
  have hl := lv_entry ([.ref h0, .int a1]) (n := 4) (Nat.le_of_ble_eq_true rfl)
  have hen : entryFrame m args 4 = _ := (congrArg (fun z => entryFrame m z 4) hargs).trans (lg_entry_eq m ([.ref h0, .int a1]) 4)
  refine W.eq hen ?_
  clear hen
  generalize (lg_sl ([.ref h0, .int a1]) ++ List.replicate (4 - (lg_sl ([.ref h0, .int a1])).length) Slot.unset).toArray = ls at hl ⊢
  have hl : lv_has ls 4 [(0, .ref h0), (1, .int a1)] := hl
  have J37 : ∀ (rc : (Nat → Int32) → Int32 → Int32 → Int32 → Option (Int32)) (hrec0 : ∀ (ls : Array Slot) (v1 : Int32) (v2 : Int32) (v3 : Int32), lv_has ls 4 [(0, .ref h0), (1, .int v1), (2, .int v2), (3, .int v3)] → rc us v1 v2 v3 = some r → W p l e (headSpec ws_R_leavesOne rm_R_leavesOne).room s m args below meth c s.heap [] 0 0 (MQ below (vp_Si (fun z => r = z)) args s 0 0 (fun _ => False)) (F0 m 4 ls [])), ∀ (ls : Array Slot) (v1 : Int32) (v3 : Int32) (z0 : Int32), lv_has ls 4 [(0, .ref h0), (1, .int v1), (3, .int v3)] → f_R_leavesOne_J37 rc us v1 v3 z0 = some r → W p l e (headSpec ws_R_leavesOne rm_R_leavesOne).room s m args below meth c s.heap [] 0 0 (MQ below (vp_Si (fun z => r = z)) args s 0 0 (fun _ => False)) (F0 m 37 ls [.int z0]) := by
    intro rc hrec0
    intro ls v1 v3 z0 hl hF
    have hF : (rc us v1 z0 (v3 + (1 : Int32))) = some r := hF
    refine lv_istore_n hx hb d_R_leavesOne_37 rfl hl (by decide) rfl (fun ls hl => ?_)
    have hl : lv_has ls 4 [(2, .int z0), (0, .ref h0), (1, .int v1), (3, .int v3)] := hl
    refine lv_iinc (k := 3) (v := (v3 + (1 : Int32))) hx hb d_R_leavesOne_38 hl rfl rfl (by decide) rfl (fun ls hl => ?_)
    have hl : lv_has ls 4 [(3, .int (v3 + (1 : Int32))), (2, .int z0), (0, .ref h0), (1, .int v1)] := hl
    refine lv_goto hx hb d_R_leavesOne_41 (tgt := 4) (by decide) ?_
    exact hrec0 _ v1 z0 (v3 + (1 : Int32)) (lv_sub hl [2, 3, 1, 0] rfl) hF
  have J36 : ∀ (rc : (Nat → Int32) → Int32 → Int32 → Int32 → Option (Int32)) (hrec0 : ∀ (ls : Array Slot) (v1 : Int32) (v2 : Int32) (v3 : Int32), lv_has ls 4 [(0, .ref h0), (1, .int v1), (2, .int v2), (3, .int v3)] → rc us v1 v2 v3 = some r → W p l e (headSpec ws_R_leavesOne rm_R_leavesOne).room s m args below meth c s.heap [] 0 0 (MQ below (vp_Si (fun z => r = z)) args s 0 0 (fun _ => False)) (F0 m 4 ls [])), ∀ (ls : Array Slot) (v1 : Int32) (v3 : Int32), lv_has ls 4 [(0, .ref h0), (1, .int v1), (3, .int v3)] → f_R_leavesOne_J36 rc us v1 v3 = some r → W p l e (headSpec ws_R_leavesOne rm_R_leavesOne).room s m args below meth c s.heap [] 0 0 (MQ below (vp_Si (fun z => r = z)) args s 0 0 (fun _ => False)) (F0 m 36 ls []) := by
    intro rc hrec0
    intro ls v1 v3 hl hF
    have hF : (f_R_leavesOne_J37 rc us v1 v3 (0 : Int32)) = some r := hF
    refine lv_iconst (v := (0 : Int32)) hx hb d_R_leavesOne_36 (by decide) ?_
    exact J37 _ hrec0 _ v1 v3 (0 : Int32) hl hF
  have J32 : ∀ (rc : (Nat → Int32) → Int32 → Int32 → Int32 → Option (Int32)) (hrec0 : ∀ (ls : Array Slot) (v1 : Int32) (v2 : Int32) (v3 : Int32), lv_has ls 4 [(0, .ref h0), (1, .int v1), (2, .int v2), (3, .int v3)] → rc us v1 v2 v3 = some r → W p l e (headSpec ws_R_leavesOne rm_R_leavesOne).room s m args below meth c s.heap [] 0 0 (MQ below (vp_Si (fun z => r = z)) args s 0 0 (fun _ => False)) (F0 m 4 ls [])), ∀ (ls : Array Slot) (v1 : Int32) (v3 : Int32), lv_has ls 4 [(0, .ref h0), (1, .int v1), (3, .int v3)] → f_R_leavesOne_J32 rc us v1 v3 = some r → W p l e (headSpec ws_R_leavesOne rm_R_leavesOne).room s m args below meth c s.heap [] 0 0 (MQ below (vp_Si (fun z => r = z)) args s 0 0 (fun _ => False)) (F0 m 32 ls []) := by
    intro rc hrec0
    intro ls v1 v3 hl hF
    have hF : (f_R_leavesOne_J37 rc us v1 v3 (1 : Int32)) = some r := hF
    refine lv_iconst (v := (1 : Int32)) hx hb d_R_leavesOne_32 (by decide) ?_
    refine lv_goto hx hb d_R_leavesOne_33 (tgt := 37) (by decide) ?_
    exact J37 _ hrec0 _ v1 v3 (1 : Int32) hl hF
  have LH : ∀ n : Nat, (∀ (ls : Array Slot) (v1 : Int32) (v2 : Int32) (v3 : Int32), lv_has ls 4 [(0, .ref h0), (1, .int v1), (2, .int v2), (3, .int v3)] → f_R_leavesOne_H n us v1 v2 v3 = some r → W p l e (headSpec ws_R_leavesOne rm_R_leavesOne).room s m args below meth c s.heap [] 0 0 (MQ below (vp_Si (fun z => r = z)) args s 0 0 (fun _ => False)) (F0 m 4 ls [])) := by
    intro n
    induction n with
    | zero =>
      exact (by intro ls v1 v2 v3 hl hF; have hF : (none : Option (Int32)) = _ := hF; cases hF)
    | succ n ih =>
      have hrec0 := ih
      intro ls v1 v2 v3 hl hF
      have hF : (if (4 : Int32) ≤ v3 then (if ¬ (v2 = 0 ∨ v2 = 1) then none else some v2) else (if v2 = 0 then (if v1 < 0 then (f_R_leavesOne_J36 (f_R_leavesOne_H n) us v1 v3) else (if v3 = (v1 / (4 : Int32)) then (f_R_leavesOne_J36 (f_R_leavesOne_H n) us v1 v3) else ((f_R_empty us v3).bind fun r26 => if r26 = 0 then (f_R_leavesOne_J36 (f_R_leavesOne_H n) us v1 v3) else (f_R_leavesOne_J32 (f_R_leavesOne_H n) us v1 v3)))) else (f_R_leavesOne_J32 (f_R_leavesOne_H n) us v1 v3))) = some r := hF
      refine lv_iload_n hx hb d_R_leavesOne_4 rfl (lv_at hl 3 rfl) ?_
      refine lv_iconst (v := (4 : Int32)) hx hb d_R_leavesOne_5 (by decide) ?_
      refine lv_icmp_ge hx hb d_R_leavesOne_6 (tgt := 44) (by decide) (fun h6 => ?_) (fun h6 => ?_)
      · have hF := tx_t h6 hF
        refine lv_iload_n hx hb d_R_leavesOne_44 rfl (lv_at hl 2 rfl) ?_
        obtain ⟨hz, hF⟩ := tx_g hF
        have hz := Classical.not_not.mp hz
        exact W.zret hx hb hr (tx_z hz) (fun t ht hW => ⟨_, rfl, (Option.some.inj hF).symm, ht⟩) (fun q h => by cases h) d_R_leavesOne_45
      · have hF := tx_f h6 hF
        refine lv_iload_n hx hb d_R_leavesOne_9 rfl (lv_at hl 2 rfl) ?_
        refine lv_if_ne hx hb d_R_leavesOne_10 (tgt := 32) (by decide) (fun h10 => ?_) (fun h10 => ?_)
        · have hF := tx_f h10 hF
          exact J32 _ hrec0 _ v1 v3 (lv_sub hl [0, 1, 3] rfl) hF
        · have hF := tx_t h10 hF
          refine lv_iload_n hx hb d_R_leavesOne_13 rfl (lv_at hl 1 rfl) ?_
          refine lv_if_lt hx hb d_R_leavesOne_14 (tgt := 36) (by decide) (fun h14 => ?_) (fun h14 => ?_)
          · have hF := tx_t h14 hF
            exact J36 _ hrec0 _ v1 v3 (lv_sub hl [0, 1, 3] rfl) hF
          · have hF := tx_f h14 hF
            refine lv_iload_n hx hb d_R_leavesOne_17 rfl (lv_at hl 3 rfl) ?_
            refine lv_iload_n hx hb d_R_leavesOne_18 rfl (lv_at hl 1 rfl) ?_
            refine lv_iconst (v := (4 : Int32)) hx hb d_R_leavesOne_19 (by decide) ?_
            refine lv_idiv hx hb d_R_leavesOne_20 (by decide) ?_
            refine lv_icmp_eq hx hb d_R_leavesOne_21 (tgt := 36) (by decide) (fun h21 => ?_) (fun h21 => ?_)
            · have hF := tx_t h21 hF
              exact J36 _ hrec0 _ v1 v3 (lv_sub hl [0, 1, 3] rfl) hF
            · have hF := tx_f h21 hF
              refine lv_aload_n hx hb d_R_leavesOne_24 rfl (lv_at hl 0 rfl) ?_
              refine lv_iload_n hx hb d_R_leavesOne_25 rfl (lv_at hl 3 rfl) ?_
              obtain ⟨r26, hc26, hF⟩ := tx_b hF
              refine vp_callSi (W.runV (As := [.int v3]) (rest := []) ⟨hx, hb, hml, hown, hts⟩ (c_R_empty l dC dI cA h0 q1 q2 q3 q4 q5 q6 q7 rm fl us lg se we wh th nx md wr v3 r26 hc26) (cwV 1 hts (tg_V bq_3_35 bq_3_37 bq_s_23 bq_1_4 bq_3_38) rfl rfl rfl (by decide +kernel) ⟨Nat.le_of_ble_eq_true rfl, Nat.le_of_ble_eq_true rfl⟩) ⟨tx_blR, (va_recv (ci := 2) (q0 := 0) hK hP rfl rfl), tx_preR (hP) hK⟩ rfl rfl hl.1 rfl (lv_room (Nat.le_of_ble_eq_true rfl)) d_R_leavesOne_26 ⟨Nat.zero_le _, Nat.zero_le _⟩) (fun zz hz => ?_)
              subst hz
              refine lv_if_eq hx hb d_R_leavesOne_29 (tgt := 36) (by decide) (fun h29 => ?_) (fun h29 => ?_)
              · have hF := tx_t h29 hF
                exact J36 _ hrec0 _ v1 v3 (lv_sub hl [0, 1, 3] rfl) hF
              · have hF := tx_f h29 hF
                exact J32 _ hrec0 _ v1 v3 (lv_sub hl [0, 1, 3] rfl) hF
  obtain hrec0 := LH 100
  have hF : (f_R_leavesOne_H 100 us a1 (0 : Int32) (0 : Int32)) = some r := hF
  refine lv_iconst (v := (0 : Int32)) hx hb d_R_leavesOne_0 (by decide) ?_
  refine lv_istore_n hx hb d_R_leavesOne_1 rfl hl (by decide) rfl (fun ls hl => ?_)
  have hl : lv_has ls 4 [(2, .int (0 : Int32)), (0, .ref h0), (1, .int a1)] := hl
  refine lv_iconst (v := (0 : Int32)) hx hb d_R_leavesOne_2 (by decide) ?_
  refine lv_istore_n hx hb d_R_leavesOne_3 rfl hl (by decide) rfl (fun ls hl => ?_)
  have hl : lv_has ls 4 [(3, .int (0 : Int32)), (2, .int (0 : Int32)), (0, .ref h0), (1, .int a1)] := hl
  exact hrec0 _ a1 (0 : Int32) (0 : Int32) (lv_sub hl [2, 3, 1, 0] rfl) hF
abbrev rm_R_toClean : Room := { frames := 2, cells := 0, slots := 0, locals := 45 }
set_option maxHeartbeats 4000000 in
set_option maxRecDepth 100000 in
theorem c_R_toClean (l : Launch) (dC : Nat → ClassId) (dI : Nat → Nat → Nat) (cA : ClassId) (h0 q1 q2 q3 q4 q5 q6 q7 : Nat) (rm fl us lg se we wh : Nat → Int32) (th nx md wr : Int32)  (r : Int32)  (hF : f_R_toClean us we = some r) : Met l y_R_toClean ws_R_toClean rm_R_toClean (tx_PR [.ref h0] (dC, dI) [(cA, .int)] (wR cA h0 q1 q2 q3 q4 q5 q6 q7 rm fl us lg se we wh th nx md wr)) (vp_Si (fun z => r = z)) 0 0 (fun _ => False) := by
  refine Met.ofW (cc := b_R_toClean) (maxL := 6) (ret := some .int) (by decide +kernel) rfl ?_
  intro p e s m args below meth c s₁ B hml hv
  obtain ⟨hargs, hP, hK⟩ := hv
  have hx := B.exec
  have hb := B.bytes
  have hr := B.returns
  have hts := atoms_spec (ws := ws_R_toClean) B.pre
  have hown : s.vm.findClass "FlashStoreModel" = some m.cls := findClass_of_methodNamed B.named
  have hlocks := B.notSynchronized
  have w0 := (hts _ (List.mem_cons_of_mem _ bq_2_198))
  have hl := lv_entry ([.ref h0]) (n := 6) (Nat.le_of_ble_eq_true rfl)
  have hen : entryFrame m args 6 = _ := (congrArg (fun z => entryFrame m z 6) hargs).trans (lg_entry_eq m ([.ref h0]) 6)
  refine W.eq hen ?_
  clear hen
  generalize (lg_sl ([.ref h0]) ++ List.replicate (6 - (lg_sl ([.ref h0])).length) Slot.unset).toArray = ls at hl ⊢
  have hl : lv_has ls 6 [(0, .ref h0)] := hl
  have J131 : ∀ (rc : (Nat → Int32) → (Nat → Int32) → Nat → Int32 → Int32 → Int32 → Int32 → Int32 → Option (Int32)) (hrec0 : ∀ (ls : Array Slot) (v1 : Int32) (v2 : Int32), lv_has ls 6 [(0, .ref h0), (1, .int v1), (2, .int v2)] → rc us we 0 v1 v2 0 0 0 = some r → W p l e (headSpec ws_R_toClean rm_R_toClean).room s m args below meth c s.heap [] 0 0 (MQ below (vp_Si (fun z => r = z)) args s 0 0 (fun _ => False)) (F0 m 4 ls [])) (hrec1 : ∀ (ls : Array Slot) (v1 : Int32) (v2 : Int32) (v3 : Int32) (v4 : Int32) (v5 : Int32), lv_has ls 6 [(0, .ref h0), (1, .int v1), (2, .int v2), (3, .int v3), (4, .int v4), (5, .int v5)] → rc us we 1 v1 v2 v3 v4 v5 = some r → W p l e (headSpec ws_R_toClean rm_R_toClean).room s m args below meth c s.heap [] 0 0 (MQ below (vp_Si (fun z => r = z)) args s 0 0 (fun _ => False)) (F0 m 28 ls [])), ∀ (ls : Array Slot) (v1 : Int32) (v2 : Int32), lv_has ls 6 [(0, .ref h0), (1, .int v1), (2, .int v2)] → f_R_toClean_J131 rc us we v1 v2 = some r → W p l e (headSpec ws_R_toClean rm_R_toClean).room s m args below meth c s.heap [] 0 0 (MQ below (vp_Si (fun z => r = z)) args s 0 0 (fun _ => False)) (F0 m 131 ls []) := by
    intro rc hrec0 hrec1
    intro ls v1 v2 hl hF
    have hF : (rc us we 0 v1 (v2 + (1 : Int32)) 0 0 0) = some r := hF
    refine lv_iinc (k := 2) (v := (v2 + (1 : Int32))) hx hb d_R_toClean_131 hl rfl rfl (by decide) rfl (fun ls hl => ?_)
    have hl : lv_has ls 6 [(2, .int (v2 + (1 : Int32))), (0, .ref h0), (1, .int v1)] := hl
    refine lv_goto hx hb d_R_toClean_134 (tgt := 4) (by decide) ?_
    exact hrec0 _ v1 (v2 + (1 : Int32)) (lv_sub hl [1, 2, 0] rfl) hF
  have J130 : ∀ (rc : (Nat → Int32) → (Nat → Int32) → Nat → Int32 → Int32 → Int32 → Int32 → Int32 → Option (Int32)) (hrec0 : ∀ (ls : Array Slot) (v1 : Int32) (v2 : Int32), lv_has ls 6 [(0, .ref h0), (1, .int v1), (2, .int v2)] → rc us we 0 v1 v2 0 0 0 = some r → W p l e (headSpec ws_R_toClean rm_R_toClean).room s m args below meth c s.heap [] 0 0 (MQ below (vp_Si (fun z => r = z)) args s 0 0 (fun _ => False)) (F0 m 4 ls [])) (hrec1 : ∀ (ls : Array Slot) (v1 : Int32) (v2 : Int32) (v3 : Int32) (v4 : Int32) (v5 : Int32), lv_has ls 6 [(0, .ref h0), (1, .int v1), (2, .int v2), (3, .int v3), (4, .int v4), (5, .int v5)] → rc us we 1 v1 v2 v3 v4 v5 = some r → W p l e (headSpec ws_R_toClean rm_R_toClean).room s m args below meth c s.heap [] 0 0 (MQ below (vp_Si (fun z => r = z)) args s 0 0 (fun _ => False)) (F0 m 28 ls [])), ∀ (ls : Array Slot) (v2 : Int32) (z0 : Int32), lv_has ls 6 [(0, .ref h0), (2, .int v2)] → f_R_toClean_J130 rc us we v2 z0 = some r → W p l e (headSpec ws_R_toClean rm_R_toClean).room s m args below meth c s.heap [] 0 0 (MQ below (vp_Si (fun z => r = z)) args s 0 0 (fun _ => False)) (F0 m 130 ls [.int z0]) := by
    intro rc hrec0 hrec1
    intro ls v2 z0 hl hF
    have hF : (f_R_toClean_J131 rc us we z0 v2) = some r := hF
    refine lv_istore_n hx hb d_R_toClean_130 rfl hl (by decide) rfl (fun ls hl => ?_)
    have hl : lv_has ls 6 [(1, .int z0), (0, .ref h0), (2, .int v2)] := hl
    exact J131 _ hrec0 hrec1 _ z0 v2 (lv_sub hl [1, 0, 2] rfl) hF
  have J118 : ∀ (rc : (Nat → Int32) → (Nat → Int32) → Nat → Int32 → Int32 → Int32 → Int32 → Int32 → Option (Int32)) (hrec0 : ∀ (ls : Array Slot) (v1 : Int32) (v2 : Int32), lv_has ls 6 [(0, .ref h0), (1, .int v1), (2, .int v2)] → rc us we 0 v1 v2 0 0 0 = some r → W p l e (headSpec ws_R_toClean rm_R_toClean).room s m args below meth c s.heap [] 0 0 (MQ below (vp_Si (fun z => r = z)) args s 0 0 (fun _ => False)) (F0 m 4 ls [])) (hrec1 : ∀ (ls : Array Slot) (v1 : Int32) (v2 : Int32) (v3 : Int32) (v4 : Int32) (v5 : Int32), lv_has ls 6 [(0, .ref h0), (1, .int v1), (2, .int v2), (3, .int v3), (4, .int v4), (5, .int v5)] → rc us we 1 v1 v2 v3 v4 v5 = some r → W p l e (headSpec ws_R_toClean rm_R_toClean).room s m args below meth c s.heap [] 0 0 (MQ below (vp_Si (fun z => r = z)) args s 0 0 (fun _ => False)) (F0 m 28 ls [])), ∀ (ls : Array Slot) (v1 : Int32) (v2 : Int32) (z0 : Int32), lv_has ls 6 [(0, .ref h0), (1, .int v1), (2, .int v2)] → f_R_toClean_J118 rc us we v1 v2 z0 = some r → W p l e (headSpec ws_R_toClean rm_R_toClean).room s m args below meth c s.heap [] 0 0 (MQ below (vp_Si (fun z => r = z)) args s 0 0 (fun _ => False)) (F0 m 118 ls [.int z0]) := by
    intro rc hrec0 hrec1
    intro ls v1 v2 z0 hl hF
    have hF : (if z0 = 0 then (f_R_toClean_J130 rc us we v2 v1) else (f_R_toClean_J130 rc us we v2 v2)) = some r := hF
    refine lv_istore hx hb d_R_toClean_118 hl (by decide) rfl (fun ls hl => ?_)
    have hl : lv_has ls 6 [(5, .int z0), (0, .ref h0), (1, .int v1), (2, .int v2)] := hl
    refine lv_iload hx hb d_R_toClean_120 (lv_at hl 0 rfl) ?_
    refine lv_if_eq hx hb d_R_toClean_122 (tgt := 129) (by decide) (fun h122 => ?_) (fun h122 => ?_)
    · have hF := tx_t h122 hF
      refine lv_iload_n hx hb d_R_toClean_129 rfl (lv_at hl 2 rfl) ?_
      exact J130 _ hrec0 hrec1 _ v2 v1 (lv_sub hl [1, 3] rfl) hF
    · have hF := tx_f h122 hF
      refine lv_iload_n hx hb d_R_toClean_125 rfl (lv_at hl 3 rfl) ?_
      refine lv_goto hx hb d_R_toClean_126 (tgt := 130) (by decide) ?_
      exact J130 _ hrec0 hrec1 _ v2 v2 (lv_sub hl [1, 3] rfl) hF
  have J117 : ∀ (rc : (Nat → Int32) → (Nat → Int32) → Nat → Int32 → Int32 → Int32 → Int32 → Int32 → Option (Int32)) (hrec0 : ∀ (ls : Array Slot) (v1 : Int32) (v2 : Int32), lv_has ls 6 [(0, .ref h0), (1, .int v1), (2, .int v2)] → rc us we 0 v1 v2 0 0 0 = some r → W p l e (headSpec ws_R_toClean rm_R_toClean).room s m args below meth c s.heap [] 0 0 (MQ below (vp_Si (fun z => r = z)) args s 0 0 (fun _ => False)) (F0 m 4 ls [])) (hrec1 : ∀ (ls : Array Slot) (v1 : Int32) (v2 : Int32) (v3 : Int32) (v4 : Int32) (v5 : Int32), lv_has ls 6 [(0, .ref h0), (1, .int v1), (2, .int v2), (3, .int v3), (4, .int v4), (5, .int v5)] → rc us we 1 v1 v2 v3 v4 v5 = some r → W p l e (headSpec ws_R_toClean rm_R_toClean).room s m args below meth c s.heap [] 0 0 (MQ below (vp_Si (fun z => r = z)) args s 0 0 (fun _ => False)) (F0 m 28 ls [])), ∀ (ls : Array Slot) (v1 : Int32) (v2 : Int32), lv_has ls 6 [(0, .ref h0), (1, .int v1), (2, .int v2)] → f_R_toClean_J117 rc us we v1 v2 = some r → W p l e (headSpec ws_R_toClean rm_R_toClean).room s m args below meth c s.heap [] 0 0 (MQ below (vp_Si (fun z => r = z)) args s 0 0 (fun _ => False)) (F0 m 117 ls []) := by
    intro rc hrec0 hrec1
    intro ls v1 v2 hl hF
    have hF : (f_R_toClean_J118 rc us we v1 v2 (0 : Int32)) = some r := hF
    refine lv_iconst (v := (0 : Int32)) hx hb d_R_toClean_117 (by decide) ?_
    exact J118 _ hrec0 hrec1 _ v1 v2 (0 : Int32) hl hF
  have J113 : ∀ (rc : (Nat → Int32) → (Nat → Int32) → Nat → Int32 → Int32 → Int32 → Int32 → Int32 → Option (Int32)) (hrec0 : ∀ (ls : Array Slot) (v1 : Int32) (v2 : Int32), lv_has ls 6 [(0, .ref h0), (1, .int v1), (2, .int v2)] → rc us we 0 v1 v2 0 0 0 = some r → W p l e (headSpec ws_R_toClean rm_R_toClean).room s m args below meth c s.heap [] 0 0 (MQ below (vp_Si (fun z => r = z)) args s 0 0 (fun _ => False)) (F0 m 4 ls [])) (hrec1 : ∀ (ls : Array Slot) (v1 : Int32) (v2 : Int32) (v3 : Int32) (v4 : Int32) (v5 : Int32), lv_has ls 6 [(0, .ref h0), (1, .int v1), (2, .int v2), (3, .int v3), (4, .int v4), (5, .int v5)] → rc us we 1 v1 v2 v3 v4 v5 = some r → W p l e (headSpec ws_R_toClean rm_R_toClean).room s m args below meth c s.heap [] 0 0 (MQ below (vp_Si (fun z => r = z)) args s 0 0 (fun _ => False)) (F0 m 28 ls [])), ∀ (ls : Array Slot) (v1 : Int32) (v2 : Int32), lv_has ls 6 [(0, .ref h0), (1, .int v1), (2, .int v2)] → f_R_toClean_J113 rc us we v1 v2 = some r → W p l e (headSpec ws_R_toClean rm_R_toClean).room s m args below meth c s.heap [] 0 0 (MQ below (vp_Si (fun z => r = z)) args s 0 0 (fun _ => False)) (F0 m 113 ls []) := by
    intro rc hrec0 hrec1
    intro ls v1 v2 hl hF
    have hF : (f_R_toClean_J118 rc us we v1 v2 (1 : Int32)) = some r := hF
    refine lv_iconst (v := (1 : Int32)) hx hb d_R_toClean_113 (by decide) ?_
    refine lv_goto hx hb d_R_toClean_114 (tgt := 118) (by decide) ?_
    exact J118 _ hrec0 hrec1 _ v1 v2 (1 : Int32) hl hF
  have LH : ∀ n : Nat, (∀ (ls : Array Slot) (v1 : Int32) (v2 : Int32), lv_has ls 6 [(0, .ref h0), (1, .int v1), (2, .int v2)] → f_R_toClean_H n us we 0 v1 v2 0 0 0 = some r → W p l e (headSpec ws_R_toClean rm_R_toClean).room s m args below meth c s.heap [] 0 0 (MQ below (vp_Si (fun z => r = z)) args s 0 0 (fun _ => False)) (F0 m 4 ls [])) ∧ (∀ (ls : Array Slot) (v1 : Int32) (v2 : Int32) (v3 : Int32) (v4 : Int32) (v5 : Int32), lv_has ls 6 [(0, .ref h0), (1, .int v1), (2, .int v2), (3, .int v3), (4, .int v4), (5, .int v5)] → f_R_toClean_H n us we 1 v1 v2 v3 v4 v5 = some r → W p l e (headSpec ws_R_toClean rm_R_toClean).room s m args below meth c s.heap [] 0 0 (MQ below (vp_Si (fun z => r = z)) args s 0 0 (fun _ => False)) (F0 m 28 ls [])) := by
    intro n
    induction n with
    | zero =>
      exact ⟨(by intro ls v1 v2 hl hF; have hF : (none : Option (Int32)) = _ := hF; cases hF), (by intro ls v1 v2 v3 v4 v5 hl hF; have hF : (none : Option (Int32)) = _ := hF; cases hF)⟩
    | succ n ih =>
      obtain ⟨hrec0, hrec1⟩ := ih
      refine ⟨?_, ?_⟩
      · intro ls v1 v2 hl hF
        have hF : (if (4 : Int32) ≤ v2 then (some v1) else ((f_R_count us v2 (1 : Int32)).bind fun r12 => (f_R_count us v2 (0 : Int32)).bind fun r19 => f_R_toClean_H n us we 1 v1 v2 r12 (-r19) (0 : Int32))) = some r := hF
        refine lv_iload_n hx hb d_R_toClean_4 rfl (lv_at hl 2 rfl) ?_
        refine lv_iconst (v := (4 : Int32)) hx hb d_R_toClean_5 (by decide) ?_
        refine lv_icmp_ge hx hb d_R_toClean_6 (tgt := 137) (by decide) (fun h6 => ?_) (fun h6 => ?_)
        · have hF := tx_t h6 hF
          refine lv_iload_n hx hb d_R_toClean_137 rfl (lv_at hl 1 rfl) ?_
          exact W.iret hx hb hr (fun t ht hW => ⟨_, rfl, (Option.some.inj hF).symm, ht⟩) (fun q h => by cases h) d_R_toClean_138
        · have hF := tx_f h6 hF
          refine lv_aload_n hx hb d_R_toClean_9 rfl (lv_at hl 0 rfl) ?_
          refine lv_iload_n hx hb d_R_toClean_10 rfl (lv_at hl 2 rfl) ?_
          refine lv_iconst (v := (1 : Int32)) hx hb d_R_toClean_11 (by decide) ?_
          obtain ⟨r12, hc12, hF⟩ := tx_b hF
          refine vp_callSi (W.runV (As := [.int v2, .int (1 : Int32)]) (rest := []) ⟨hx, hb, hml, hown, hts⟩ (c_R_count l dC dI cA h0 q1 q2 q3 q4 q5 q6 q7 rm fl us lg se we wh th nx md wr v2 (1 : Int32) r12 hc12) (cwV 2 hts (tg_V bq_3_31 bq_3_33 bq_s_22 bq_1_4 bq_3_34) rfl rfl rfl (by decide +kernel) ⟨Nat.le_of_ble_eq_true rfl, Nat.le_of_ble_eq_true rfl⟩) ⟨tx_blR, (va_recv (ci := 2) (q0 := 0) hK hP rfl rfl), tx_preR (hP) hK⟩ rfl rfl hl.1 rfl (lv_room (Nat.le_of_ble_eq_true rfl)) d_R_toClean_12 ⟨Nat.zero_le _, Nat.zero_le _⟩) (fun zz hz => ?_)
          subst hz
          refine lv_istore_n hx hb d_R_toClean_15 rfl hl (by decide) rfl (fun ls hl => ?_)
          have hl : lv_has ls 6 [(3, .int r12), (0, .ref h0), (1, .int v1), (2, .int v2)] := hl
          refine lv_aload_n hx hb d_R_toClean_16 rfl (lv_at hl 1 rfl) ?_
          refine lv_iload_n hx hb d_R_toClean_17 rfl (lv_at hl 3 rfl) ?_
          refine lv_iconst (v := (0 : Int32)) hx hb d_R_toClean_18 (by decide) ?_
          obtain ⟨r19, hc19, hF⟩ := tx_b hF
          refine vp_callSi (W.runV (As := [.int v2, .int (0 : Int32)]) (rest := []) ⟨hx, hb, hml, hown, hts⟩ (c_R_count l dC dI cA h0 q1 q2 q3 q4 q5 q6 q7 rm fl us lg se we wh th nx md wr v2 (0 : Int32) r19 hc19) (cwV 2 hts (tg_V bq_3_31 bq_3_33 bq_s_22 bq_1_4 bq_3_34) rfl rfl rfl (by decide +kernel) ⟨Nat.le_of_ble_eq_true rfl, Nat.le_of_ble_eq_true rfl⟩) ⟨tx_blR, (va_recv (ci := 2) (q0 := 0) hK hP rfl rfl), tx_preR (hP) hK⟩ rfl rfl hl.1 rfl (lv_room (Nat.le_of_ble_eq_true rfl)) d_R_toClean_19 ⟨Nat.zero_le _, Nat.zero_le _⟩) (fun zz hz => ?_)
          subst hz
          refine lv_ineg hx hb d_R_toClean_22 ?_
          refine lv_istore hx hb d_R_toClean_23 hl (by decide) rfl (fun ls hl => ?_)
          have hl : lv_has ls 6 [(4, .int (-r19)), (3, .int r12), (0, .ref h0), (1, .int v1), (2, .int v2)] := hl
          refine lv_iconst (v := (0 : Int32)) hx hb d_R_toClean_25 (by decide) ?_
          refine lv_istore hx hb d_R_toClean_26 hl (by decide) rfl (fun ls hl => ?_)
          have hl : lv_has ls 6 [(5, .int (0 : Int32)), (4, .int (-r19)), (3, .int r12), (0, .ref h0), (1, .int v1), (2, .int v2)] := hl
          exact hrec1 _ v1 v2 r12 (-r19) (0 : Int32) (lv_sub hl [3, 4, 5, 2, 1, 0] rfl) hF
      · intro ls v1 v2 v3 v4 v5 hl hF
        have hF : (if (4 : Int32) ≤ v5 then ((f_R_empty us v2).bind fun r54 => if r54 = 0 then (if v3 = (4 : Int32) then (f_R_toClean_J131 (f_R_toClean_H n) us we v1 v2) else (if v3 ≤ v4 then (if v1 < 0 then (f_R_toClean_J113 (f_R_toClean_H n) us we v1 v2) else ((f_R_count us v1 (1 : Int32)).bind fun r82 => if v3 < r82 then (f_R_toClean_J113 (f_R_toClean_H n) us we v1 v2) else ((f_R_count us v1 (1 : Int32)).bind fun r92 => if v3 = r92 then (if v2 < 0 ∨ 4 ≤ v2.toNatClampNeg then none else if v1 < 0 ∨ 4 ≤ v1.toNatClampNeg then none else if (we v1.toNatClampNeg) ≤ (we v2.toNatClampNeg) then (f_R_toClean_J117 (f_R_toClean_H n) us we v1 v2) else (f_R_toClean_J113 (f_R_toClean_H n) us we v1 v2)) else (f_R_toClean_J117 (f_R_toClean_H n) us we v1 v2)))) else (f_R_toClean_J131 (f_R_toClean_H n) us we v1 v2))) else (f_R_toClean_J131 (f_R_toClean_H n) us we v1 v2)) else ((f_R_count us v5 (0 : Int32)).bind fun r40 => f_R_toClean_H n us we 1 v1 v2 v3 (v4 + r40) (v5 + (1 : Int32)))) = some r := hF
        refine lv_iload hx hb d_R_toClean_28 (lv_at hl 5 rfl) ?_
        refine lv_iconst (v := (4 : Int32)) hx hb d_R_toClean_30 (by decide) ?_
        refine lv_icmp_ge hx hb d_R_toClean_31 (tgt := 52) (by decide) (fun h31 => ?_) (fun h31 => ?_)
        · have hF := tx_t h31 hF
          refine lv_aload_n hx hb d_R_toClean_52 rfl (lv_at hl 0 rfl) ?_
          refine lv_iload_n hx hb d_R_toClean_53 rfl (lv_at hl 2 rfl) ?_
          obtain ⟨r54, hc54, hF⟩ := tx_b hF
          refine vp_callSi (W.runV (As := [.int v2]) (rest := []) ⟨hx, hb, hml, hown, hts⟩ (c_R_empty l dC dI cA h0 q1 q2 q3 q4 q5 q6 q7 rm fl us lg se we wh th nx md wr v2 r54 hc54) (cwV 1 hts (tg_V bq_3_35 bq_3_37 bq_s_23 bq_1_4 bq_3_38) rfl rfl rfl (by decide +kernel) ⟨Nat.le_of_ble_eq_true rfl, Nat.le_of_ble_eq_true rfl⟩) ⟨tx_blR, (va_recv (ci := 2) (q0 := 0) hK hP rfl rfl), tx_preR (hP) hK⟩ rfl rfl hl.1 rfl (lv_room (Nat.le_of_ble_eq_true rfl)) d_R_toClean_54 ⟨Nat.zero_le _, Nat.zero_le _⟩) (fun zz hz => ?_)
          subst hz
          refine lv_if_ne hx hb d_R_toClean_57 (tgt := 131) (by decide) (fun h57 => ?_) (fun h57 => ?_)
          · have hF := tx_f h57 hF
            exact J131 _ hrec0 hrec1 _ v1 v2 (lv_sub hl [0, 1, 2] rfl) hF
          · have hF := tx_t h57 hF
            refine lv_iload_n hx hb d_R_toClean_60 rfl (lv_at hl 3 rfl) ?_
            refine lv_iconst (v := (4 : Int32)) hx hb d_R_toClean_61 (by decide) ?_
            refine lv_icmp_eq hx hb d_R_toClean_62 (tgt := 131) (by decide) (fun h62 => ?_) (fun h62 => ?_)
            · have hF := tx_t h62 hF
              exact J131 _ hrec0 hrec1 _ v1 v2 (lv_sub hl [0, 1, 2] rfl) hF
            · have hF := tx_f h62 hF
              refine lv_iload_n hx hb d_R_toClean_65 rfl (lv_at hl 3 rfl) ?_
              refine lv_iload hx hb d_R_toClean_66 (lv_at hl 4 rfl) ?_
              refine lv_icmp_le hx hb d_R_toClean_68 (tgt := 74) (by decide) (fun h68 => ?_) (fun h68 => ?_)
              · have hF := tx_t h68 hF
                refine lv_iload_n hx hb d_R_toClean_74 rfl (lv_at hl 1 rfl) ?_
                refine lv_if_lt hx hb d_R_toClean_75 (tgt := 113) (by decide) (fun h75 => ?_) (fun h75 => ?_)
                · have hF := tx_t h75 hF
                  exact J113 _ hrec0 hrec1 _ v1 v2 (lv_sub hl [0, 1, 2] rfl) hF
                · have hF := tx_f h75 hF
                  refine lv_iload_n hx hb d_R_toClean_78 rfl (lv_at hl 3 rfl) ?_
                  refine lv_aload_n hx hb d_R_toClean_79 rfl (lv_at hl 0 rfl) ?_
                  refine lv_iload_n hx hb d_R_toClean_80 rfl (lv_at hl 1 rfl) ?_
                  refine lv_iconst (v := (1 : Int32)) hx hb d_R_toClean_81 (by decide) ?_
                  obtain ⟨r82, hc82, hF⟩ := tx_b hF
                  refine vp_callSi (W.runV (As := [.int v1, .int (1 : Int32)]) (rest := [.int v3]) ⟨hx, hb, hml, hown, hts⟩ (c_R_count l dC dI cA h0 q1 q2 q3 q4 q5 q6 q7 rm fl us lg se we wh th nx md wr v1 (1 : Int32) r82 hc82) (cwV 2 hts (tg_V bq_3_31 bq_3_33 bq_s_22 bq_1_4 bq_3_34) rfl rfl rfl (by decide +kernel) ⟨Nat.le_of_ble_eq_true rfl, Nat.le_of_ble_eq_true rfl⟩) ⟨tx_blR, (va_recv (ci := 2) (q0 := 0) hK hP rfl rfl), tx_preR (hP) hK⟩ rfl rfl hl.1 rfl (lv_room (Nat.le_of_ble_eq_true rfl)) d_R_toClean_82 ⟨Nat.zero_le _, Nat.zero_le _⟩) (fun zz hz => ?_)
                  subst hz
                  refine lv_icmp_lt hx hb d_R_toClean_85 (tgt := 113) (by decide) (fun h85 => ?_) (fun h85 => ?_)
                  · have hF := tx_t h85 hF
                    exact J113 _ hrec0 hrec1 _ v1 v2 (lv_sub hl [0, 1, 2] rfl) hF
                  · have hF := tx_f h85 hF
                    refine lv_iload_n hx hb d_R_toClean_88 rfl (lv_at hl 3 rfl) ?_
                    refine lv_aload_n hx hb d_R_toClean_89 rfl (lv_at hl 0 rfl) ?_
                    refine lv_iload_n hx hb d_R_toClean_90 rfl (lv_at hl 1 rfl) ?_
                    refine lv_iconst (v := (1 : Int32)) hx hb d_R_toClean_91 (by decide) ?_
                    obtain ⟨r92, hc92, hF⟩ := tx_b hF
                    refine vp_callSi (W.runV (As := [.int v1, .int (1 : Int32)]) (rest := [.int v3]) ⟨hx, hb, hml, hown, hts⟩ (c_R_count l dC dI cA h0 q1 q2 q3 q4 q5 q6 q7 rm fl us lg se we wh th nx md wr v1 (1 : Int32) r92 hc92) (cwV 2 hts (tg_V bq_3_31 bq_3_33 bq_s_22 bq_1_4 bq_3_34) rfl rfl rfl (by decide +kernel) ⟨Nat.le_of_ble_eq_true rfl, Nat.le_of_ble_eq_true rfl⟩) ⟨tx_blR, (va_recv (ci := 2) (q0 := 0) hK hP rfl rfl), tx_preR (hP) hK⟩ rfl rfl hl.1 rfl (lv_room (Nat.le_of_ble_eq_true rfl)) d_R_toClean_92 ⟨Nat.zero_le _, Nat.zero_le _⟩) (fun zz hz => ?_)
                    subst hz
                    refine lv_icmp_ne hx hb d_R_toClean_95 (tgt := 117) (by decide) (fun h95 => ?_) (fun h95 => ?_)
                    · have hF := tx_f h95 hF
                      exact J117 _ hrec0 hrec1 _ v1 v2 (lv_sub hl [0, 1, 2] rfl) hF
                    · have hF := tx_t h95 hF
                      refine lv_aload_n hx hb d_R_toClean_98 rfl (lv_at hl 0 rfl) ?_
                      refine va_get (D := (dC, dI)) (ci := 2) (v := .ref q6) (C := "FlashStoreModel") (T := TR) (N := 11) hx hb hts inTR hown hK hP 0 rfl rfl 6 (by decide) w0 (fun _ h9 => h9) rfl d_R_toClean_99 ?_
                      refine lv_iload_n hx hb d_R_toClean_102 rfl (lv_at hl 2 rfl) ?_
                      obtain ⟨hi103, hF⟩ := tx_g hF
                      refine va_iald hx hb hK hP 6 0 rfl rfl hi103 d_R_toClean_103 ?_
                      refine lv_aload_n hx hb d_R_toClean_104 rfl (lv_at hl 0 rfl) ?_
                      refine va_get (D := (dC, dI)) (ci := 2) (v := .ref q6) (C := "FlashStoreModel") (T := TR) (N := 11) hx hb hts inTR hown hK hP 0 rfl rfl 6 (by decide) w0 (fun _ h9 => h9) rfl d_R_toClean_105 ?_
                      refine lv_iload_n hx hb d_R_toClean_108 rfl (lv_at hl 1 rfl) ?_
                      obtain ⟨hi109, hF⟩ := tx_g hF
                      refine va_iald hx hb hK hP 6 0 rfl rfl hi109 d_R_toClean_109 ?_
                      refine lv_icmp_ge hx hb d_R_toClean_110 (tgt := 117) (by decide) (fun h110 => ?_) (fun h110 => ?_)
                      · have hF := tx_t h110 hF
                        exact J117 _ hrec0 hrec1 _ v1 v2 (lv_sub hl [0, 1, 2] rfl) hF
                      · have hF := tx_f h110 hF
                        exact J113 _ hrec0 hrec1 _ v1 v2 (lv_sub hl [0, 1, 2] rfl) hF
              · have hF := tx_f h68 hF
                refine lv_goto hx hb d_R_toClean_71 (tgt := 131) (by decide) ?_
                exact J131 _ hrec0 hrec1 _ v1 v2 (lv_sub hl [0, 1, 2] rfl) hF
        · have hF := tx_f h31 hF
          refine lv_iload hx hb d_R_toClean_34 (lv_at hl 4 rfl) ?_
          refine lv_aload_n hx hb d_R_toClean_36 rfl (lv_at hl 0 rfl) ?_
          refine lv_iload hx hb d_R_toClean_37 (lv_at hl 5 rfl) ?_
          refine lv_iconst (v := (0 : Int32)) hx hb d_R_toClean_39 (by decide) ?_
          obtain ⟨r40, hc40, hF⟩ := tx_b hF
          refine vp_callSi (W.runV (As := [.int v5, .int (0 : Int32)]) (rest := [.int v4]) ⟨hx, hb, hml, hown, hts⟩ (c_R_count l dC dI cA h0 q1 q2 q3 q4 q5 q6 q7 rm fl us lg se we wh th nx md wr v5 (0 : Int32) r40 hc40) (cwV 2 hts (tg_V bq_3_31 bq_3_33 bq_s_22 bq_1_4 bq_3_34) rfl rfl rfl (by decide +kernel) ⟨Nat.le_of_ble_eq_true rfl, Nat.le_of_ble_eq_true rfl⟩) ⟨tx_blR, (va_recv (ci := 2) (q0 := 0) hK hP rfl rfl), tx_preR (hP) hK⟩ rfl rfl hl.1 rfl (lv_room (Nat.le_of_ble_eq_true rfl)) d_R_toClean_40 ⟨Nat.zero_le _, Nat.zero_le _⟩) (fun zz hz => ?_)
          subst hz
          refine lv_iadd hx hb d_R_toClean_43 ?_
          refine lv_istore hx hb d_R_toClean_44 hl (by decide) rfl (fun ls hl => ?_)
          have hl : lv_has ls 6 [(4, .int (v4 + r40)), (0, .ref h0), (1, .int v1), (2, .int v2), (3, .int v3), (5, .int v5)] := hl
          refine lv_iinc (k := 5) (v := (v5 + (1 : Int32))) hx hb d_R_toClean_46 hl rfl rfl (by decide) rfl (fun ls hl => ?_)
          have hl : lv_has ls 6 [(5, .int (v5 + (1 : Int32))), (4, .int (v4 + r40)), (0, .ref h0), (1, .int v1), (2, .int v2), (3, .int v3)] := hl
          refine lv_goto hx hb d_R_toClean_49 (tgt := 28) (by decide) ?_
          exact hrec1 _ v1 v2 v3 (v4 + r40) (v5 + (1 : Int32)) (lv_sub hl [2, 3, 4, 5, 1, 0] rfl) hF
  obtain ⟨hrec0, hrec1⟩ := LH 100
  have hF : (f_R_toClean_H 100 us we 0 (-1 : Int32) (0 : Int32) 0 0 0) = some r := hF
  refine lv_iconst (v := (-1 : Int32)) hx hb d_R_toClean_0 (by decide) ?_
  refine lv_istore_n hx hb d_R_toClean_1 rfl hl (by decide) rfl (fun ls hl => ?_)
  have hl : lv_has ls 6 [(1, .int (-1 : Int32)), (0, .ref h0)] := hl
  refine lv_iconst (v := (0 : Int32)) hx hb d_R_toClean_2 (by decide) ?_
  refine lv_istore_n hx hb d_R_toClean_3 rfl hl (by decide) rfl (fun ls hl => ?_)
  have hl : lv_has ls 6 [(2, .int (0 : Int32)), (1, .int (-1 : Int32)), (0, .ref h0)] := hl
  exact hrec0 _ (-1 : Int32) (0 : Int32) (lv_sub hl [2, 1, 0] rfl) hF
abbrev rm_R_cleanBlock : Room := { frames := 4, cells := 0, slots := 0, locals := 92 }
set_option maxHeartbeats 4000000 in
set_option maxRecDepth 100000 in
theorem c_R_cleanBlock (l : Launch) (dC : Nat → ClassId) (dI : Nat → Nat → Nat) (cA : ClassId) (h0 q1 q2 q3 q4 q5 q6 q7 sz : Nat) (rm fl us lg se we wh : Nat → Int32) (th nx md wr : Int32) (a1 : Int32) (fl' : Nat → Int32) (us' : Nat → Int32) (lg' : Nat → Int32) (se' : Nat → Int32) (we' : Nat → Int32) (wh' : Nat → Int32) (nx' : Int32) (wr' : Int32) (hF : f_R_cleanBlock rm fl us lg se we wh nx wr a1 = some (fl', us', lg', se', we', wh', nx', wr')) : Met l y_R_cleanBlock ws_R_cleanBlock rm_R_cleanBlock (tx_PW [.ref h0, .int a1] (dC, dI) [(cA, .int)] (wR cA h0 q1 q2 q3 q4 q5 q6 q7 rm fl us lg se we wh th nx md wr) sz) (va_Qv (S := Unit) (fun _ => True) (fun _ t => va_P (dC, dI) vwCl (wR cA h0 q1 q2 q3 q4 q5 q6 q7 rm (fl') (us') (lg') (se') (we') (wh') th (nx') md (wr')) t.heap ∧ va_D (va_A (wR cA h0 q1 q2 q3 q4 q5 q6 q7 rm fl us lg se we wh th nx md wr) sz) (wR cA h0 q1 q2 q3 q4 q5 q6 q7 rm (fl') (us') (lg') (se') (we') (wh') th (nx') md (wr'))) (va_A (wR cA h0 q1 q2 q3 q4 q5 q6 q7 rm fl us lg se we wh th nx md wr) sz)) 0 0 (va_A (wR cA h0 q1 q2 q3 q4 q5 q6 q7 rm fl us lg se we wh th nx md wr) sz) := by
  refine Met.ofW (cc := b_R_cleanBlock) (maxL := 4) (ret := none) (by decide +kernel) rfl ?_
  intro p e s m args below meth c s₁ B hml hv
  obtain ⟨hargs, hsz, hP, hK, hD0, hNw⟩ := hv
  have hx := B.exec
  have hb := B.bytes
  have hr := B.returns
  have hts := atoms_spec (ws := ws_R_cleanBlock) B.pre
  have hown : s.vm.findClass "FlashStoreModel" = some m.cls := findClass_of_methodNamed B.named
  have hlocks := B.notSynchronized
  subst hsz
  have hD := hD0.self (sz := s.heap.size)
  generalize hAe : va_A (wR cA h0 q1 q2 q3 q4 q5 q6 q7 rm fl us lg se we wh th nx md wr) s.heap.size = A at hD ⊢
  have hA : ∀ q : Nat, s.heap.size ≤ q → A q := fun q h => by rw [← hAe]; exact Or.inr h
  have hS : va_S A s.heap s.heap [] := va_S.rf
  have hP : va_P (dC, dI) vwCl (wR cA h0 q1 q2 q3 q4 q5 q6 q7 rm fl us lg se we wh th nx md wr) s.heap := hP
  have w0 := (hts _ (List.mem_cons_of_mem _ bq_2_195))
  have w1 := (hts _ (List.mem_cons_of_mem _ bq_2_199))
  have w2 := (hts _ (List.mem_cons_of_mem _ bq_2_196))
  have w3 := (hts _ (List.mem_cons_of_mem _ bq_2_198))
  have w4 := (hts _ (List.mem_cons_of_mem _ bq_2_194))
  have w5 := hts (.constant "FlashStoreModel" 32 (2147483647 : Int32)) (by decide +kernel)
  have hl := lv_entry ([.ref h0, .int a1]) (n := 4) (Nat.le_of_ble_eq_true rfl)
  have hen : entryFrame m args 4 = _ := (congrArg (fun z => entryFrame m z 4) hargs).trans (lg_entry_eq m ([.ref h0, .int a1]) 4)
  refine W.eq hen ?_
  clear hen
  generalize (lg_sl ([.ref h0, .int a1]) ++ List.replicate (4 - (lg_sl ([.ref h0, .int a1])).length) Slot.unset).toArray = ls at hl ⊢
  have hl : lv_has ls 4 [(0, .ref h0), (1, .int a1)] := hl
  have J66 : ∀ (rc : (Nat → Int32) → (Nat → Int32) → (Nat → Int32) → (Nat → Int32) → (Nat → Int32) → (Nat → Int32) → (Nat → Int32) → Int32 → Int32 → Nat → Int32 → Int32 → Int32 → Option ((Nat → Int32) × (Nat → Int32) × (Nat → Int32) × (Nat → Int32) × (Nat → Int32) × (Nat → Int32) × Int32 × Int32)) (hrec0 : ∀ (H : Heap) (locs : List Loc) (ls : Array Slot) (fl : Nat → Int32) (us : Nat → Int32) (lg : Nat → Int32) (se : Nat → Int32) (we : Nat → Int32) (wh : Nat → Int32) (nx : Int32) (wr : Int32) (v1 : Int32) (v2 : Int32), va_P (dC, dI) vwCl (wR cA h0 q1 q2 q3 q4 q5 q6 q7 rm fl us lg se we wh th nx md wr) H → va_D A (wR cA h0 q1 q2 q3 q4 q5 q6 q7 rm fl us lg se we wh th nx md wr) → va_S A s.heap H locs → lv_has ls 4 [(0, .ref h0), (1, .int v1), (2, .int v2)] → rc rm fl us lg se we wh nx wr 0 v1 v2 0 = some (fl', us', lg', se', we', wh', nx', wr') → W p l e (headSpec ws_R_cleanBlock rm_R_cleanBlock).room s m args below meth c H locs 0 0 (MQ below (va_Qv (S := Unit) (fun _ => True) (fun _ t => va_P (dC, dI) vwCl (wR cA h0 q1 q2 q3 q4 q5 q6 q7 rm (fl') (us') (lg') (se') (we') (wh') th (nx') md (wr')) t.heap ∧ va_D A (wR cA h0 q1 q2 q3 q4 q5 q6 q7 rm (fl') (us') (lg') (se') (we') (wh') th (nx') md (wr'))) A) args s 0 0 A) (F0 m 4 ls [])) (hrec1 : ∀ (H : Heap) (locs : List Loc) (ls : Array Slot) (fl : Nat → Int32) (us : Nat → Int32) (lg : Nat → Int32) (se : Nat → Int32) (we : Nat → Int32) (wh : Nat → Int32) (nx : Int32) (wr : Int32) (v1 : Int32) (v2 : Int32), va_P (dC, dI) vwCl (wR cA h0 q1 q2 q3 q4 q5 q6 q7 rm fl us lg se we wh th nx md wr) H → va_D A (wR cA h0 q1 q2 q3 q4 q5 q6 q7 rm fl us lg se we wh th nx md wr) → va_S A s.heap H locs → lv_has ls 4 [(0, .ref h0), (1, .int v1), (2, .int v2)] → rc rm fl us lg se we wh nx wr 1 v1 v2 0 = some (fl', us', lg', se', we', wh', nx', wr') → W p l e (headSpec ws_R_cleanBlock rm_R_cleanBlock).room s m args below meth c H locs 0 0 (MQ below (va_Qv (S := Unit) (fun _ => True) (fun _ t => va_P (dC, dI) vwCl (wR cA h0 q1 q2 q3 q4 q5 q6 q7 rm (fl') (us') (lg') (se') (we') (wh') th (nx') md (wr')) t.heap ∧ va_D A (wR cA h0 q1 q2 q3 q4 q5 q6 q7 rm (fl') (us') (lg') (se') (we') (wh') th (nx') md (wr'))) A) args s 0 0 A) (F0 m 76 ls [])) (hrec2 : ∀ (H : Heap) (locs : List Loc) (ls : Array Slot) (fl : Nat → Int32) (us : Nat → Int32) (lg : Nat → Int32) (se : Nat → Int32) (we : Nat → Int32) (wh : Nat → Int32) (nx : Int32) (wr : Int32) (v1 : Int32) (v2 : Int32) (v3 : Int32), va_P (dC, dI) vwCl (wR cA h0 q1 q2 q3 q4 q5 q6 q7 rm fl us lg se we wh th nx md wr) H → va_D A (wR cA h0 q1 q2 q3 q4 q5 q6 q7 rm fl us lg se we wh th nx md wr) → va_S A s.heap H locs → lv_has ls 4 [(0, .ref h0), (1, .int v1), (2, .int v2), (3, .int v3)] → rc rm fl us lg se we wh nx wr 2 v1 v2 v3 = some (fl', us', lg', se', we', wh', nx', wr') → W p l e (headSpec ws_R_cleanBlock rm_R_cleanBlock).room s m args below meth c H locs 0 0 (MQ below (va_Qv (S := Unit) (fun _ => True) (fun _ t => va_P (dC, dI) vwCl (wR cA h0 q1 q2 q3 q4 q5 q6 q7 rm (fl') (us') (lg') (se') (we') (wh') th (nx') md (wr')) t.heap ∧ va_D A (wR cA h0 q1 q2 q3 q4 q5 q6 q7 rm (fl') (us') (lg') (se') (we') (wh') th (nx') md (wr'))) A) args s 0 0 A) (F0 m 94 ls [])), ∀ (H : Heap) (locs : List Loc) (ls : Array Slot) (fl : Nat → Int32) (us : Nat → Int32) (lg : Nat → Int32) (se : Nat → Int32) (we : Nat → Int32) (wh : Nat → Int32) (nx : Int32) (wr : Int32) (v1 : Int32) (v2 : Int32), va_P (dC, dI) vwCl (wR cA h0 q1 q2 q3 q4 q5 q6 q7 rm fl us lg se we wh th nx md wr) H → va_D A (wR cA h0 q1 q2 q3 q4 q5 q6 q7 rm fl us lg se we wh th nx md wr) → va_S A s.heap H locs → lv_has ls 4 [(0, .ref h0), (1, .int v1), (2, .int v2)] → f_R_cleanBlock_J66 rc rm fl us lg se we wh nx wr v1 v2 = some (fl', us', lg', se', we', wh', nx', wr') → W p l e (headSpec ws_R_cleanBlock rm_R_cleanBlock).room s m args below meth c H locs 0 0 (MQ below (va_Qv (S := Unit) (fun _ => True) (fun _ t => va_P (dC, dI) vwCl (wR cA h0 q1 q2 q3 q4 q5 q6 q7 rm (fl') (us') (lg') (se') (we') (wh') th (nx') md (wr')) t.heap ∧ va_D A (wR cA h0 q1 q2 q3 q4 q5 q6 q7 rm (fl') (us') (lg') (se') (we') (wh') th (nx') md (wr'))) A) args s 0 0 A) (F0 m 66 ls []) := by
    intro rc hrec0 hrec1 hrec2
    intro H locs ls fl us lg se we wh nx wr v1 v2 hP hD hS hl hF
    have hF : (rc rm fl us lg se we wh nx wr 0 v1 (v2 + (1 : Int32)) 0) = some (fl', us', lg', se', we', wh', nx', wr') := hF
    refine lv_iinc (k := 2) (v := (v2 + (1 : Int32))) hx hb d_R_cleanBlock_66 hl rfl rfl (by decide) rfl (fun ls hl => ?_)
    have hl : lv_has ls 4 [(2, .int (v2 + (1 : Int32))), (0, .ref h0), (1, .int v1)] := hl
    refine lv_goto hx hb d_R_cleanBlock_69 (tgt := 4) (by decide) ?_
    exact hrec0 _ _ _ fl us lg se we wh nx wr v1 (v2 + (1 : Int32)) hP hD hS (lv_sub hl [1, 2, 0] rfl) hF
  have LH : ∀ n : Nat, (∀ (H : Heap) (locs : List Loc) (ls : Array Slot) (fl : Nat → Int32) (us : Nat → Int32) (lg : Nat → Int32) (se : Nat → Int32) (we : Nat → Int32) (wh : Nat → Int32) (nx : Int32) (wr : Int32) (v1 : Int32) (v2 : Int32), va_P (dC, dI) vwCl (wR cA h0 q1 q2 q3 q4 q5 q6 q7 rm fl us lg se we wh th nx md wr) H → va_D A (wR cA h0 q1 q2 q3 q4 q5 q6 q7 rm fl us lg se we wh th nx md wr) → va_S A s.heap H locs → lv_has ls 4 [(0, .ref h0), (1, .int v1), (2, .int v2)] → f_R_cleanBlock_H n rm fl us lg se we wh nx wr 0 v1 v2 0 = some (fl', us', lg', se', we', wh', nx', wr') → W p l e (headSpec ws_R_cleanBlock rm_R_cleanBlock).room s m args below meth c H locs 0 0 (MQ below (va_Qv (S := Unit) (fun _ => True) (fun _ t => va_P (dC, dI) vwCl (wR cA h0 q1 q2 q3 q4 q5 q6 q7 rm (fl') (us') (lg') (se') (we') (wh') th (nx') md (wr')) t.heap ∧ va_D A (wR cA h0 q1 q2 q3 q4 q5 q6 q7 rm (fl') (us') (lg') (se') (we') (wh') th (nx') md (wr'))) A) args s 0 0 A) (F0 m 4 ls [])) ∧ (∀ (H : Heap) (locs : List Loc) (ls : Array Slot) (fl : Nat → Int32) (us : Nat → Int32) (lg : Nat → Int32) (se : Nat → Int32) (we : Nat → Int32) (wh : Nat → Int32) (nx : Int32) (wr : Int32) (v1 : Int32) (v2 : Int32), va_P (dC, dI) vwCl (wR cA h0 q1 q2 q3 q4 q5 q6 q7 rm fl us lg se we wh th nx md wr) H → va_D A (wR cA h0 q1 q2 q3 q4 q5 q6 q7 rm fl us lg se we wh th nx md wr) → va_S A s.heap H locs → lv_has ls 4 [(0, .ref h0), (1, .int v1), (2, .int v2)] → f_R_cleanBlock_H n rm fl us lg se we wh nx wr 1 v1 v2 0 = some (fl', us', lg', se', we', wh', nx', wr') → W p l e (headSpec ws_R_cleanBlock rm_R_cleanBlock).room s m args below meth c H locs 0 0 (MQ below (va_Qv (S := Unit) (fun _ => True) (fun _ t => va_P (dC, dI) vwCl (wR cA h0 q1 q2 q3 q4 q5 q6 q7 rm (fl') (us') (lg') (se') (we') (wh') th (nx') md (wr')) t.heap ∧ va_D A (wR cA h0 q1 q2 q3 q4 q5 q6 q7 rm (fl') (us') (lg') (se') (we') (wh') th (nx') md (wr'))) A) args s 0 0 A) (F0 m 76 ls [])) ∧ (∀ (H : Heap) (locs : List Loc) (ls : Array Slot) (fl : Nat → Int32) (us : Nat → Int32) (lg : Nat → Int32) (se : Nat → Int32) (we : Nat → Int32) (wh : Nat → Int32) (nx : Int32) (wr : Int32) (v1 : Int32) (v2 : Int32) (v3 : Int32), va_P (dC, dI) vwCl (wR cA h0 q1 q2 q3 q4 q5 q6 q7 rm fl us lg se we wh th nx md wr) H → va_D A (wR cA h0 q1 q2 q3 q4 q5 q6 q7 rm fl us lg se we wh th nx md wr) → va_S A s.heap H locs → lv_has ls 4 [(0, .ref h0), (1, .int v1), (2, .int v2), (3, .int v3)] → f_R_cleanBlock_H n rm fl us lg se we wh nx wr 2 v1 v2 v3 = some (fl', us', lg', se', we', wh', nx', wr') → W p l e (headSpec ws_R_cleanBlock rm_R_cleanBlock).room s m args below meth c H locs 0 0 (MQ below (va_Qv (S := Unit) (fun _ => True) (fun _ t => va_P (dC, dI) vwCl (wR cA h0 q1 q2 q3 q4 q5 q6 q7 rm (fl') (us') (lg') (se') (we') (wh') th (nx') md (wr')) t.heap ∧ va_D A (wR cA h0 q1 q2 q3 q4 q5 q6 q7 rm (fl') (us') (lg') (se') (we') (wh') th (nx') md (wr'))) A) args s 0 0 A) (F0 m 94 ls [])) := by
    intro n
    induction n with
    | zero =>
      exact ⟨(by intro H locs ls fl us lg se we wh nx wr v1 v2 hP hD hS hl hF; have hF : (none : Option ((Nat → Int32) × (Nat → Int32) × (Nat → Int32) × (Nat → Int32) × (Nat → Int32) × (Nat → Int32) × Int32 × Int32)) = _ := hF; cases hF), (by intro H locs ls fl us lg se we wh nx wr v1 v2 hP hD hS hl hF; have hF : (none : Option ((Nat → Int32) × (Nat → Int32) × (Nat → Int32) × (Nat → Int32) × (Nat → Int32) × (Nat → Int32) × Int32 × Int32)) = _ := hF; cases hF), (by intro H locs ls fl us lg se we wh nx wr v1 v2 v3 hP hD hS hl hF; have hF : (none : Option ((Nat → Int32) × (Nat → Int32) × (Nat → Int32) × (Nat → Int32) × (Nat → Int32) × (Nat → Int32) × Int32 × Int32)) = _ := hF; cases hF)⟩
    | succ n ih =>
      obtain ⟨hrec0, hrec1, hrec2⟩ := ih
      refine ⟨?_, ?_, ?_⟩
      · intro H locs ls fl us lg se we wh nx wr v1 v2 hP hD hS hl hF
        have hF : (if (((4 : Int32) * v1) + (4 : Int32)) ≤ v2 then (f_R_cleanBlock_H n rm fl us lg se we wh nx wr 1 v1 ((4 : Int32) * v1) 0) else (if v2 < 0 ∨ 16 ≤ v2.toNatClampNeg then none else if (us v2.toNatClampNeg) = (1 : Int32) then ((f_R_readable rm fl wr v2).bind fun (r25, wr25) => if r25 = 0 then (if v2 < 0 ∨ 16 ≤ v2.toNatClampNeg then none else if (lg v2.toNatClampNeg) < 0 ∨ 8 ≤ (lg v2.toNatClampNeg).toNatClampNeg then none else f_R_cleanBlock_J66 (f_R_cleanBlock_H n) rm fl us lg se we (upd wh (lg v2.toNatClampNeg).toNatClampNeg (0 : Int32)) nx wr25 v1 v2) else ((f_R_placeBut us v1).bind fun r34 => if v2 < 0 ∨ 16 ≤ v2.toNatClampNeg then none else (f_R_contentOf rm fl wr25 v2).bind fun (r45, wr45) => (f_R_put rm fl us lg se wh nx r34 (lg v2.toNatClampNeg) r45).bind fun (fl48, us48, lg48, se48, wh48, nx48) => f_R_cleanBlock_J66 (f_R_cleanBlock_H n) rm fl48 us48 lg48 se48 we wh48 nx48 wr45 v1 v2)) else (f_R_cleanBlock_J66 (f_R_cleanBlock_H n) rm fl us lg se we wh nx wr v1 v2))) = some (fl', us', lg', se', we', wh', nx', wr') := hF
        refine lv_iload_n hx hb d_R_cleanBlock_4 rfl (lv_at hl 2 rfl) ?_
        refine lv_iconst (v := (4 : Int32)) hx hb d_R_cleanBlock_5 (by decide) ?_
        refine lv_iload_n hx hb d_R_cleanBlock_6 rfl (lv_at hl 1 rfl) ?_
        refine lv_imul hx hb d_R_cleanBlock_7 ?_
        refine lv_iconst (v := (4 : Int32)) hx hb d_R_cleanBlock_8 (by decide) ?_
        refine lv_iadd hx hb d_R_cleanBlock_9 ?_
        refine lv_icmp_ge hx hb d_R_cleanBlock_10 (tgt := 72) (by decide) (fun h10 => ?_) (fun h10 => ?_)
        · have hF := tx_t h10 hF
          refine lv_iconst (v := (4 : Int32)) hx hb d_R_cleanBlock_72 (by decide) ?_
          refine lv_iload_n hx hb d_R_cleanBlock_73 rfl (lv_at hl 1 rfl) ?_
          refine lv_imul hx hb d_R_cleanBlock_74 ?_
          refine lv_istore_n hx hb d_R_cleanBlock_75 rfl hl (by decide) rfl (fun ls hl => ?_)
          have hl : lv_has ls 4 [(2, .int ((4 : Int32) * v1)), (0, .ref h0), (1, .int v1)] := hl
          exact hrec1 _ _ _ fl us lg se we wh nx wr v1 ((4 : Int32) * v1) hP hD hS (lv_sub hl [1, 2, 0] rfl) hF
        · have hF := tx_f h10 hF
          refine lv_aload_n hx hb d_R_cleanBlock_13 rfl (lv_at hl 0 rfl) ?_
          refine va_get (D := (dC, dI)) (ci := 2) (v := .ref q3) (C := "FlashStoreModel") (T := TR) (N := 11) hx hb hts inTR hown hK hP 0 rfl rfl 3 (by decide) w0 (fun _ h9 => h9) rfl d_R_cleanBlock_14 ?_
          refine lv_iload_n hx hb d_R_cleanBlock_17 rfl (lv_at hl 2 rfl) ?_
          obtain ⟨hi18, hF⟩ := tx_g hF
          refine va_iald hx hb hK hP 3 0 rfl rfl hi18 d_R_cleanBlock_18 ?_
          refine lv_iconst (v := (1 : Int32)) hx hb d_R_cleanBlock_19 (by decide) ?_
          refine lv_icmp_ne hx hb d_R_cleanBlock_20 (tgt := 66) (by decide) (fun h20 => ?_) (fun h20 => ?_)
          · have hF := tx_f h20 hF
            exact J66 _ hrec0 hrec1 hrec2 _ _ _ fl us lg se we wh nx wr v1 v2 hP hD hS hl hF
          · have hF := tx_t h20 hF
            refine lv_aload_n hx hb d_R_cleanBlock_23 rfl (lv_at hl 0 rfl) ?_
            refine lv_iload_n hx hb d_R_cleanBlock_24 rfl (lv_at hl 2 rfl) ?_
            obtain ⟨⟨r25, wr25⟩, hc25, hF⟩ := tx_b hF
            try dsimp only at hF
            have hPc := hP.sub (ws' := (wR cA h0 q1 q2 q3 q4 q5 q6 q7 rm fl us lg se we wh th nx md wr)) [0, 1, 2, 3, 4, 5, 6, 7] rfl
            have hDc := hD.sub (ws' := (wR cA h0 q1 q2 q3 q4 q5 q6 q7 rm fl us lg se we wh th nx md wr)) [0, 1, 2, 3, 4, 5, 6, 7] (by decide) rfl
            have hFc := va_free (wc := (wR cA h0 q1 q2 q3 q4 q5 q6 q7 rm fl us lg se we wh th nx md wr)) hD hS hA [0, 1, 2, 3, 4, 5, 6, 7] rfl
            refine va_calli (va_runV (As := [.int v2]) (rest := []) ⟨hx, hb, hml, hown, hts⟩ (c_R_readable l dC dI cA h0 q1 q2 q3 q4 q5 q6 q7 H.size rm fl us lg se we wh th nx md wr v2 r25 wr25 hc25) (cwV 1 hts (tg_V bq_3_43 bq_3_45 bq_s_25 bq_1_4 bq_3_46) rfl rfl rfl (by decide +kernel) ⟨Nat.le_of_ble_eq_true rfl, Nat.le_of_ble_eq_true rfl⟩) ⟨tx_blW, (va_recv (ci := 2) (q0 := 0) hK hP rfl rfl), tx_preW hPc hDc hK hNw⟩ rfl rfl hl.1 rfl (lv_room (Nat.le_of_ble_eq_true rfl)) d_R_cleanBlock_25 ⟨Nat.zero_le _, Nat.zero_le _⟩) hS (fun q _ h => hFc q h) hFc (fun zz _u t H locs ht hvm hw hB hz1 hk1 hS => ?_)
            subst hw
            obtain ⟨hP1, hD1⟩ := hB
            rw [ht] at hP1
            obtain ⟨hP2, hD2⟩ := va_join (wr := []) (w1 := (wR cA h0 q1 q2 q3 q4 q5 q6 q7 rm fl us lg se we wh th nx md wr25)) hP hD [0, 1, 2, 3, 4, 5, 6, 7] [] rfl rfl (by decide) (by decide) hk1 hFc hP1 hD1
            have hP := hP2.sub (ws' := (wR cA h0 q1 q2 q3 q4 q5 q6 q7 rm fl us lg se we wh th nx md wr25)) [0, 1, 2, 3, 4, 5, 6, 7] rfl
            have hD := hD2.sub (ws' := (wR cA h0 q1 q2 q3 q4 q5 q6 q7 rm fl us lg se we wh th nx md wr25)) [0, 1, 2, 3, 4, 5, 6, 7] (by decide) rfl
            refine lv_if_eq hx hb d_R_cleanBlock_28 (tgt := 54) (by decide) (fun h28 => ?_) (fun h28 => ?_)
            · have hF := tx_t h28 hF
              refine lv_aload_n hx hb d_R_cleanBlock_54 rfl (lv_at hl 0 rfl) ?_
              refine va_get (D := (dC, dI)) (ci := 2) (v := .ref q7) (C := "FlashStoreModel") (T := TR) (N := 11) hx hb hts inTR hown hK hP 0 rfl rfl 7 (by decide) w1 (fun _ h9 => h9) rfl d_R_cleanBlock_55 ?_
              refine lv_aload_n hx hb d_R_cleanBlock_58 rfl (lv_at hl 0 rfl) ?_
              refine va_get (D := (dC, dI)) (ci := 2) (v := .ref q4) (C := "FlashStoreModel") (T := TR) (N := 11) hx hb hts inTR hown hK hP 0 rfl rfl 4 (by decide) w2 (fun _ h9 => h9) rfl d_R_cleanBlock_59 ?_
              refine lv_iload_n hx hb d_R_cleanBlock_62 rfl (lv_at hl 2 rfl) ?_
              obtain ⟨hi63, hF⟩ := tx_g hF
              refine va_iald hx hb hK hP 4 0 rfl rfl hi63 d_R_cleanBlock_63 ?_
              refine lv_iconst (v := (0 : Int32)) hx hb d_R_cleanBlock_64 (by decide) ?_
              obtain ⟨hi65, hF⟩ := tx_g hF
              refine va_iast hx hb hK hP hD hS 7 0 rfl rfl hi65 d_R_cleanBlock_65 (fun H locs hP hD hS => ?_)
              have hP : va_P (dC, dI) vwCl (wR cA h0 q1 q2 q3 q4 q5 q6 q7 rm fl us lg se we (upd wh (lg v2.toNatClampNeg).toNatClampNeg (0 : Int32)) th nx md wr25) H := hP
              have hD : va_D A (wR cA h0 q1 q2 q3 q4 q5 q6 q7 rm fl us lg se we (upd wh (lg v2.toNatClampNeg).toNatClampNeg (0 : Int32)) th nx md wr25) := hD
              exact J66 _ hrec0 hrec1 hrec2 _ _ _ fl us lg se we (upd wh (lg v2.toNatClampNeg).toNatClampNeg (0 : Int32)) nx wr25 v1 v2 hP hD hS hl hF
            · have hF := tx_f h28 hF
              refine lv_aload_n hx hb d_R_cleanBlock_31 rfl (lv_at hl 0 rfl) ?_
              refine lv_aload_n hx hb d_R_cleanBlock_32 rfl (lv_at hl 0 rfl) ?_
              refine lv_iload_n hx hb d_R_cleanBlock_33 rfl (lv_at hl 1 rfl) ?_
              obtain ⟨r34, hc34, hF⟩ := tx_b hF
              refine vp_callSi (W.runV (As := [.int v1]) (rest := [.ref h0]) ⟨hx, hb, hml, hown, hts⟩ (c_R_placeBut l dC dI cA h0 q1 q2 q3 q4 q5 q6 q7 rm fl us lg se we wh th nx md wr25 v1 r34 hc34) (cwV 1 hts (tg_V bq_3_47 bq_3_49 bq_s_26 bq_1_4 bq_3_50) rfl rfl rfl (by decide +kernel) ⟨Nat.le_of_ble_eq_true rfl, Nat.le_of_ble_eq_true rfl⟩) ⟨tx_blR, (va_recv (ci := 2) (q0 := 0) hK hP rfl rfl), tx_preR (hP) hK⟩ rfl rfl hl.1 rfl (lv_room (Nat.le_of_ble_eq_true rfl)) d_R_cleanBlock_34 ⟨Nat.zero_le _, Nat.zero_le _⟩) (fun zz hz => ?_)
              subst hz
              refine lv_aload_n hx hb d_R_cleanBlock_37 rfl (lv_at hl 0 rfl) ?_
              refine va_get (D := (dC, dI)) (ci := 2) (v := .ref q4) (C := "FlashStoreModel") (T := TR) (N := 11) hx hb hts inTR hown hK hP 0 rfl rfl 4 (by decide) w2 (fun _ h9 => h9) rfl d_R_cleanBlock_38 ?_
              refine lv_iload_n hx hb d_R_cleanBlock_41 rfl (lv_at hl 2 rfl) ?_
              obtain ⟨hi42, hF⟩ := tx_g hF
              refine va_iald hx hb hK hP 4 0 rfl rfl hi42 d_R_cleanBlock_42 ?_
              refine lv_aload_n hx hb d_R_cleanBlock_43 rfl (lv_at hl 0 rfl) ?_
              refine lv_iload_n hx hb d_R_cleanBlock_44 rfl (lv_at hl 2 rfl) ?_
              obtain ⟨⟨r45, wr45⟩, hc45, hF⟩ := tx_b hF
              try dsimp only at hF
              have hPc := hP.sub (ws' := (wR cA h0 q1 q2 q3 q4 q5 q6 q7 rm fl us lg se we wh th nx md wr25)) [0, 1, 2, 3, 4, 5, 6, 7] rfl
              have hDc := hD.sub (ws' := (wR cA h0 q1 q2 q3 q4 q5 q6 q7 rm fl us lg se we wh th nx md wr25)) [0, 1, 2, 3, 4, 5, 6, 7] (by decide) rfl
              have hFc := va_free (wc := (wR cA h0 q1 q2 q3 q4 q5 q6 q7 rm fl us lg se we wh th nx md wr25)) hD hS hA [0, 1, 2, 3, 4, 5, 6, 7] rfl
              refine va_calll (va_runV (As := [.int v2]) (rest := [.int (lg v2.toNatClampNeg), .int r34, .ref h0]) ⟨hx, hb, hml, hown, hts⟩ (c_R_contentOf l dC dI cA h0 q1 q2 q3 q4 q5 q6 q7 H.size rm fl us lg se we wh th nx md wr25 v2 r45 wr45 hc45) (cwV 1 hts (tg_V bq_3_51 bq_3_53 bq_s_27 bq_1_4 bq_3_54) rfl rfl rfl (by decide +kernel) ⟨Nat.le_of_ble_eq_true rfl, Nat.le_of_ble_eq_true rfl⟩) ⟨tx_blW, (va_recv (ci := 2) (q0 := 0) hK hP rfl rfl), tx_preW hPc hDc hK hNw⟩ rfl rfl hl.1 rfl (lv_room (Nat.le_of_ble_eq_true rfl)) d_R_cleanBlock_45 ⟨Nat.zero_le _, Nat.zero_le _⟩) hS (fun q _ h => hFc q h) hFc (fun zz _u t H locs ht hvm hw hB hz1 hk1 hS => ?_)
              subst hw
              obtain ⟨hP1, hD1⟩ := hB
              rw [ht] at hP1
              obtain ⟨hP2, hD2⟩ := va_join (wr := []) (w1 := (wR cA h0 q1 q2 q3 q4 q5 q6 q7 rm fl us lg se we wh th nx md wr45)) hP hD [0, 1, 2, 3, 4, 5, 6, 7] [] rfl rfl (by decide) (by decide) hk1 hFc hP1 hD1
              have hP := hP2.sub (ws' := (wR cA h0 q1 q2 q3 q4 q5 q6 q7 rm fl us lg se we wh th nx md wr45)) [0, 1, 2, 3, 4, 5, 6, 7] rfl
              have hD := hD2.sub (ws' := (wR cA h0 q1 q2 q3 q4 q5 q6 q7 rm fl us lg se we wh th nx md wr45)) [0, 1, 2, 3, 4, 5, 6, 7] (by decide) rfl
              obtain ⟨⟨fl48, us48, lg48, se48, wh48, nx48⟩, hc48, hF⟩ := tx_b hF
              try dsimp only at hF
              have hPc := hP.sub (ws' := (wR cA h0 q1 q2 q3 q4 q5 q6 q7 rm fl us lg se we wh th nx md wr45)) [0, 1, 2, 3, 4, 5, 6, 7] rfl
              have hDc := hD.sub (ws' := (wR cA h0 q1 q2 q3 q4 q5 q6 q7 rm fl us lg se we wh th nx md wr45)) [0, 1, 2, 3, 4, 5, 6, 7] (by decide) rfl
              have hFc := va_free (wc := (wR cA h0 q1 q2 q3 q4 q5 q6 q7 rm fl us lg se we wh th nx md wr45)) hD hS hA [0, 1, 2, 3, 4, 5, 6, 7] rfl
              refine va_callv (va_runV (As := [.int r34, .int (lg v2.toNatClampNeg), .long r45]) (rest := []) ⟨hx, hb, hml, hown, hts⟩ (c_R_put l dC dI cA h0 q1 q2 q3 q4 q5 q6 q7 H.size rm fl us lg se we wh th nx md wr45 r34 (lg v2.toNatClampNeg) r45 fl48 us48 lg48 se48 wh48 nx48 hc48) (cwV 3 hts (tg_V bq_3_55 bq_3_57 bq_s_28 bq_1_4 bq_3_58) rfl rfl rfl (by decide +kernel) ⟨Nat.le_of_ble_eq_true rfl, Nat.le_of_ble_eq_true rfl⟩) ⟨tx_blW, (va_recv (ci := 2) (q0 := 0) hK hP rfl rfl), tx_preW hPc hDc hK hNw⟩ rfl rfl hl.1 rfl (lv_room (Nat.le_of_ble_eq_true rfl)) d_R_cleanBlock_48 ⟨Nat.zero_le _, Nat.zero_le _⟩) hS (fun q _ h => hFc q h) hFc (fun _u t H locs ht hvm hw hB hz1 hk1 hS => ?_)
              obtain ⟨hP1, hD1⟩ := hB
              rw [ht] at hP1
              obtain ⟨hP2, hD2⟩ := va_join (wr := []) (w1 := (wR cA h0 q1 q2 q3 q4 q5 q6 q7 rm fl48 us48 lg48 se48 we wh48 th nx48 md wr45)) hP hD [0, 1, 2, 3, 4, 5, 6, 7] [] rfl rfl (by decide) (by decide) hk1 hFc hP1 hD1
              have hP := hP2.sub (ws' := (wR cA h0 q1 q2 q3 q4 q5 q6 q7 rm fl48 us48 lg48 se48 we wh48 th nx48 md wr45)) [0, 1, 2, 3, 4, 5, 6, 7] rfl
              have hD := hD2.sub (ws' := (wR cA h0 q1 q2 q3 q4 q5 q6 q7 rm fl48 us48 lg48 se48 we wh48 th nx48 md wr45)) [0, 1, 2, 3, 4, 5, 6, 7] (by decide) rfl
              refine lv_goto hx hb d_R_cleanBlock_51 (tgt := 66) (by decide) ?_
              exact J66 _ hrec0 hrec1 hrec2 _ _ _ fl48 us48 lg48 se48 we wh48 nx48 wr45 v1 v2 hP hD hS hl hF
      · intro H locs ls fl us lg se we wh nx wr v1 v2 hP hD hS hl hF
        have hF : (if (((4 : Int32) * v1) + (4 : Int32)) ≤ v2 then (if v1 < 0 ∨ 4 ≤ v1.toNatClampNeg then none else some (fl, us, lg, se, (upd we v1.toNatClampNeg ((we v1.toNatClampNeg) + (1 : Int32))), wh, nx, wr)) else (if v2 < 0 ∨ 16 ≤ v2.toNatClampNeg then none else f_R_cleanBlock_H n rm fl (upd us v2.toNatClampNeg (0 : Int32)) lg se we wh nx wr 2 v1 v2 (0 : Int32))) = some (fl', us', lg', se', we', wh', nx', wr') := hF
        refine lv_iload_n hx hb d_R_cleanBlock_76 rfl (lv_at hl 2 rfl) ?_
        refine lv_iconst (v := (4 : Int32)) hx hb d_R_cleanBlock_77 (by decide) ?_
        refine lv_iload_n hx hb d_R_cleanBlock_78 rfl (lv_at hl 1 rfl) ?_
        refine lv_imul hx hb d_R_cleanBlock_79 ?_
        refine lv_iconst (v := (4 : Int32)) hx hb d_R_cleanBlock_80 (by decide) ?_
        refine lv_iadd hx hb d_R_cleanBlock_81 ?_
        refine lv_icmp_ge hx hb d_R_cleanBlock_82 (tgt := 123) (by decide) (fun h82 => ?_) (fun h82 => ?_)
        · have hF := tx_t h82 hF
          refine lv_aload_n hx hb d_R_cleanBlock_123 rfl (lv_at hl 0 rfl) ?_
          refine va_get (D := (dC, dI)) (ci := 2) (v := .ref q6) (C := "FlashStoreModel") (T := TR) (N := 11) hx hb hts inTR hown hK hP 0 rfl rfl 6 (by decide) w3 (fun _ h9 => h9) rfl d_R_cleanBlock_124 ?_
          refine lv_iload_n hx hb d_R_cleanBlock_127 rfl (lv_at hl 1 rfl) ?_
          refine lv_dup2_11 hx hb d_R_cleanBlock_128 rfl rfl ?_
          obtain ⟨hi129, hF⟩ := tx_g hF
          refine va_iald hx hb hK hP 6 0 rfl rfl hi129 d_R_cleanBlock_129 ?_
          refine lv_iconst (v := (1 : Int32)) hx hb d_R_cleanBlock_130 (by decide) ?_
          refine lv_iadd hx hb d_R_cleanBlock_131 ?_
          refine va_iast hx hb hK hP hD hS 6 0 rfl rfl hi129 d_R_cleanBlock_132 (fun H locs hP hD hS => ?_)
          have hP : va_P (dC, dI) vwCl (wR cA h0 q1 q2 q3 q4 q5 q6 q7 rm fl us lg se (upd we v1.toNatClampNeg ((we v1.toNatClampNeg) + (1 : Int32))) wh th nx md wr) H := hP
          have hD : va_D A (wR cA h0 q1 q2 q3 q4 q5 q6 q7 rm fl us lg se (upd we v1.toNatClampNeg ((we v1.toNatClampNeg) + (1 : Int32))) wh th nx md wr) := hD
          cases hF
          exact W.vret hx hb hr (fun t ht hW => ⟨⟨(), rfl, trivial, by rw [ht]; exact hP, hD⟩, hS.F ht⟩) hS.2.2 d_R_cleanBlock_133
        · have hF := tx_f h82 hF
          refine lv_aload_n hx hb d_R_cleanBlock_85 rfl (lv_at hl 0 rfl) ?_
          refine va_get (D := (dC, dI)) (ci := 2) (v := .ref q3) (C := "FlashStoreModel") (T := TR) (N := 11) hx hb hts inTR hown hK hP 0 rfl rfl 3 (by decide) w0 (fun _ h9 => h9) rfl d_R_cleanBlock_86 ?_
          refine lv_iload_n hx hb d_R_cleanBlock_89 rfl (lv_at hl 2 rfl) ?_
          refine lv_iconst (v := (0 : Int32)) hx hb d_R_cleanBlock_90 (by decide) ?_
          obtain ⟨hi91, hF⟩ := tx_g hF
          refine va_iast hx hb hK hP hD hS 3 0 rfl rfl hi91 d_R_cleanBlock_91 (fun H locs hP hD hS => ?_)
          have hP : va_P (dC, dI) vwCl (wR cA h0 q1 q2 q3 q4 q5 q6 q7 rm fl (upd us v2.toNatClampNeg (0 : Int32)) lg se we wh th nx md wr) H := hP
          have hD : va_D A (wR cA h0 q1 q2 q3 q4 q5 q6 q7 rm fl (upd us v2.toNatClampNeg (0 : Int32)) lg se we wh th nx md wr) := hD
          refine lv_iconst (v := (0 : Int32)) hx hb d_R_cleanBlock_92 (by decide) ?_
          refine lv_istore_n hx hb d_R_cleanBlock_93 rfl hl (by decide) rfl (fun ls hl => ?_)
          have hl : lv_has ls 4 [(3, .int (0 : Int32)), (0, .ref h0), (1, .int v1), (2, .int v2)] := hl
          exact hrec2 _ _ _ fl (upd us v2.toNatClampNeg (0 : Int32)) lg se we wh nx wr v1 v2 (0 : Int32) hP hD hS (lv_sub hl [1, 2, 3, 0] rfl) hF
      · intro H locs ls fl us lg se we wh nx wr v1 v2 v3 hP hD hS hl hF
        have hF : (if (5 : Int32) ≤ v3 then (f_R_cleanBlock_H n rm fl us lg se we wh nx wr 1 v1 (v2 + (1 : Int32)) 0) else (if (((5 : Int32) * v2) + v3) < 0 ∨ 80 ≤ (((5 : Int32) * v2) + v3).toNatClampNeg then none else f_R_cleanBlock_H n rm (upd fl (((5 : Int32) * v2) + v3).toNatClampNeg (2147483647 : Int32)) us lg se we wh nx wr 2 v1 v2 (v3 + (1 : Int32)))) = some (fl', us', lg', se', we', wh', nx', wr') := hF
        refine lv_iload_n hx hb d_R_cleanBlock_94 rfl (lv_at hl 3 rfl) ?_
        refine lv_iconst (v := (5 : Int32)) hx hb d_R_cleanBlock_95 (by decide) ?_
        refine lv_icmp_ge hx hb d_R_cleanBlock_96 (tgt := 117) (by decide) (fun h96 => ?_) (fun h96 => ?_)
        · have hF := tx_t h96 hF
          refine lv_iinc (k := 2) (v := (v2 + (1 : Int32))) hx hb d_R_cleanBlock_117 hl rfl rfl (by decide) rfl (fun ls hl => ?_)
          have hl : lv_has ls 4 [(2, .int (v2 + (1 : Int32))), (0, .ref h0), (1, .int v1), (3, .int v3)] := hl
          refine lv_goto hx hb d_R_cleanBlock_120 (tgt := 76) (by decide) ?_
          exact hrec1 _ _ _ fl us lg se we wh nx wr v1 (v2 + (1 : Int32)) hP hD hS (lv_sub hl [1, 2, 0] rfl) hF
        · have hF := tx_f h96 hF
          refine lv_aload_n hx hb d_R_cleanBlock_99 rfl (lv_at hl 0 rfl) ?_
          refine va_get (D := (dC, dI)) (ci := 2) (v := .ref q2) (C := "FlashStoreModel") (T := TR) (N := 11) hx hb hts inTR hown hK hP 0 rfl rfl 2 (by decide) w4 (fun _ h9 => h9) rfl d_R_cleanBlock_100 ?_
          refine lv_iconst (v := (5 : Int32)) hx hb d_R_cleanBlock_103 (by decide) ?_
          refine lv_iload_n hx hb d_R_cleanBlock_104 rfl (lv_at hl 2 rfl) ?_
          refine lv_imul hx hb d_R_cleanBlock_105 ?_
          refine lv_iload_n hx hb d_R_cleanBlock_106 rfl (lv_at hl 3 rfl) ?_
          refine lv_iadd hx hb d_R_cleanBlock_107 ?_
          refine lv_ldc hx hb hown w5 d_R_cleanBlock_108 ?_
          obtain ⟨hi110, hF⟩ := tx_g hF
          refine va_iast hx hb hK hP hD hS 2 0 rfl rfl hi110 d_R_cleanBlock_110 (fun H locs hP hD hS => ?_)
          have hP : va_P (dC, dI) vwCl (wR cA h0 q1 q2 q3 q4 q5 q6 q7 rm (upd fl (((5 : Int32) * v2) + v3).toNatClampNeg (2147483647 : Int32)) us lg se we wh th nx md wr) H := hP
          have hD : va_D A (wR cA h0 q1 q2 q3 q4 q5 q6 q7 rm (upd fl (((5 : Int32) * v2) + v3).toNatClampNeg (2147483647 : Int32)) us lg se we wh th nx md wr) := hD
          refine lv_iinc (k := 3) (v := (v3 + (1 : Int32))) hx hb d_R_cleanBlock_111 hl rfl rfl (by decide) rfl (fun ls hl => ?_)
          have hl : lv_has ls 4 [(3, .int (v3 + (1 : Int32))), (0, .ref h0), (1, .int v1), (2, .int v2)] := hl
          refine lv_goto hx hb d_R_cleanBlock_114 (tgt := 94) (by decide) ?_
          exact hrec2 _ _ _ (upd fl (((5 : Int32) * v2) + v3).toNatClampNeg (2147483647 : Int32)) us lg se we wh nx wr v1 v2 (v3 + (1 : Int32)) hP hD hS (lv_sub hl [1, 2, 3, 0] rfl) hF
  obtain ⟨hrec0, hrec1, hrec2⟩ := LH 100
  have hF : (f_R_cleanBlock_H 100 rm fl us lg se we wh nx wr 0 a1 ((4 : Int32) * a1) 0) = some (fl', us', lg', se', we', wh', nx', wr') := hF
  refine lv_iconst (v := (4 : Int32)) hx hb d_R_cleanBlock_0 (by decide) ?_
  refine lv_iload_n hx hb d_R_cleanBlock_1 rfl (lv_at hl 1 rfl) ?_
  refine lv_imul hx hb d_R_cleanBlock_2 ?_
  refine lv_istore_n hx hb d_R_cleanBlock_3 rfl hl (by decide) rfl (fun ls hl => ?_)
  have hl : lv_has ls 4 [(2, .int ((4 : Int32) * a1)), (0, .ref h0), (1, .int a1)] := hl
  exact hrec0 _ _ _ fl us lg se we wh nx wr a1 ((4 : Int32) * a1) hP hD hS (lv_sub hl [1, 2, 0] rfl) hF
abbrev rm_R_clean : Room := { frames := 5, cells := 0, slots := 0, locals := 115 }
set_option maxHeartbeats 4000000 in
set_option maxRecDepth 100000 in
theorem c_R_clean (l : Launch) (dC : Nat → ClassId) (dI : Nat → Nat → Nat) (cA : ClassId) (h0 q1 q2 q3 q4 q5 q6 q7 sz : Nat) (rm fl us lg se we wh : Nat → Int32) (th nx md wr : Int32)  (r : Int32) (fl' : Nat → Int32) (us' : Nat → Int32) (lg' : Nat → Int32) (se' : Nat → Int32) (we' : Nat → Int32) (wh' : Nat → Int32) (th' : Int32) (nx' : Int32) (wr' : Int32) (hF : f_R_clean rm fl us lg se we wh th nx wr = some (r, fl', us', lg', se', we', wh', th', nx', wr')) : Met l y_R_clean ws_R_clean rm_R_clean (tx_PW [.ref h0] (dC, dI) [(cA, .int)] (wR cA h0 q1 q2 q3 q4 q5 q6 q7 rm fl us lg se we wh th nx md wr) sz) (va_Qi (S := Unit) (fun z _ => r = z) (fun _ t => va_P (dC, dI) vwCl (wR cA h0 q1 q2 q3 q4 q5 q6 q7 rm (fl') (us') (lg') (se') (we') (wh') (th') (nx') md (wr')) t.heap ∧ va_D (va_A (wR cA h0 q1 q2 q3 q4 q5 q6 q7 rm fl us lg se we wh th nx md wr) sz) (wR cA h0 q1 q2 q3 q4 q5 q6 q7 rm (fl') (us') (lg') (se') (we') (wh') (th') (nx') md (wr'))) (va_A (wR cA h0 q1 q2 q3 q4 q5 q6 q7 rm fl us lg se we wh th nx md wr) sz)) 0 0 (va_A (wR cA h0 q1 q2 q3 q4 q5 q6 q7 rm fl us lg se we wh th nx md wr) sz) := by
  refine Met.ofW (cc := b_R_clean) (maxL := 2) (ret := some .int) (by decide +kernel) rfl ?_
  intro p e s m args below meth c s₁ B hml hv
  obtain ⟨hargs, hsz, hP, hK, hD0, hNw⟩ := hv
  have hx := B.exec
  have hb := B.bytes
  have hr := B.returns
  have hts := atoms_spec (ws := ws_R_clean) B.pre
  have hown : s.vm.findClass "FlashStoreModel" = some m.cls := findClass_of_methodNamed B.named
  have hlocks := B.notSynchronized
  subst hsz
  have hD := hD0.self (sz := s.heap.size)
  generalize hAe : va_A (wR cA h0 q1 q2 q3 q4 q5 q6 q7 rm fl us lg se we wh th nx md wr) s.heap.size = A at hD ⊢
  have hA : ∀ q : Nat, s.heap.size ≤ q → A q := fun q h => by rw [← hAe]; exact Or.inr h
  have hS : va_S A s.heap s.heap [] := va_S.rf
  have hP : va_P (dC, dI) vwCl (wR cA h0 q1 q2 q3 q4 q5 q6 q7 rm fl us lg se we wh th nx md wr) s.heap := hP
  have w0 := (hts _ (List.mem_cons_of_mem _ bq_2_192))
  have hl := lv_entry ([.ref h0]) (n := 2) (Nat.le_of_ble_eq_true rfl)
  have hen : entryFrame m args 2 = _ := (congrArg (fun z => entryFrame m z 2) hargs).trans (lg_entry_eq m ([.ref h0]) 2)
  refine W.eq hen ?_
  clear hen
  generalize (lg_sl ([.ref h0]) ++ List.replicate (2 - (lg_sl ([.ref h0])).length) Slot.unset).toArray = ls at hl ⊢
  have hl : lv_has ls 2 [(0, .ref h0)] := hl
  have J15 : ∀ (H : Heap) (locs : List Loc) (ls : Array Slot) (fl : Nat → Int32) (us : Nat → Int32) (lg : Nat → Int32) (se : Nat → Int32) (we : Nat → Int32) (wh : Nat → Int32) (th : Int32) (nx : Int32) (wr : Int32) (v1 : Int32) (z0 : Int32), va_P (dC, dI) vwCl (wR cA h0 q1 q2 q3 q4 q5 q6 q7 rm fl us lg se we wh th nx md wr) H → va_D A (wR cA h0 q1 q2 q3 q4 q5 q6 q7 rm fl us lg se we wh th nx md wr) → va_S A s.heap H locs → lv_has ls 2 [(0, .ref h0), (1, .int v1)] → f_R_clean_J15 rm fl us lg se we wh th nx wr v1 z0 = some (r, fl', us', lg', se', we', wh', th', nx', wr') → W p l e (headSpec ws_R_clean rm_R_clean).room s m args below meth c H locs 0 0 (MQ below (va_Qi (S := Unit) (fun z _ => r = z) (fun _ t => va_P (dC, dI) vwCl (wR cA h0 q1 q2 q3 q4 q5 q6 q7 rm (fl') (us') (lg') (se') (we') (wh') (th') (nx') md (wr')) t.heap ∧ va_D A (wR cA h0 q1 q2 q3 q4 q5 q6 q7 rm (fl') (us') (lg') (se') (we') (wh') (th') (nx') md (wr'))) A) args s 0 0 A) (F0 m 15 ls [.int z0, .ref h0]) := by
    intro H locs ls fl us lg se we wh th nx wr v1 z0 hP hD hS hl hF
    have hF : (if z0 ≤ 0 then ((f_R_cleanBlock rm fl us lg se we wh nx wr v1).bind fun (fl29, us29, lg29, se29, we29, wh29, nx29, wr29) => some (v1, fl29, us29, lg29, se29, we29, wh29, z0, nx29, wr29)) else (some ((0 : Int32), fl, us, lg, se, we, wh, z0, nx, wr))) = some (r, fl', us', lg', se', we', wh', th', nx', wr') := hF
    refine va_put (D := (dC, dI)) (ci := 2) (v := .int z0) (ty := .int) (C := "FlashStoreModel") (T := TR) (N := 11) hx hb hts inTR tyTR tyTR_ok nmTR hown hK hP hD hS 0 rfl rfl 0 (by decide) w0 (fun _ h9 => h9) rfl (by decide +kernel) rfl rfl (Nat.le_of_ble_eq_true rfl) d_R_clean_15 (fun H locs hP hD hS => ?_)
    have hP : va_P (dC, dI) vwCl (wR cA h0 q1 q2 q3 q4 q5 q6 q7 rm fl us lg se we wh z0 nx md wr) H := hP
    have hD : va_D A (wR cA h0 q1 q2 q3 q4 q5 q6 q7 rm fl us lg se we wh z0 nx md wr) := hD
    refine lv_aload_n hx hb d_R_clean_18 rfl (lv_at hl 0 rfl) ?_
    refine va_get (D := (dC, dI)) (ci := 2) (v := .int z0) (C := "FlashStoreModel") (T := TR) (N := 11) hx hb hts inTR hown hK hP 0 rfl rfl 0 (by decide) w0 (fun _ h9 => h9) rfl d_R_clean_19 ?_
    refine lv_if_le hx hb d_R_clean_22 (tgt := 27) (by decide) (fun h22 => ?_) (fun h22 => ?_)
    · have hF := tx_t h22 hF
      refine lv_aload_n hx hb d_R_clean_27 rfl (lv_at hl 0 rfl) ?_
      refine lv_iload_n hx hb d_R_clean_28 rfl (lv_at hl 1 rfl) ?_
      obtain ⟨⟨fl29, us29, lg29, se29, we29, wh29, nx29, wr29⟩, hc29, hF⟩ := tx_b hF
      try dsimp only at hF
      have hPc := hP.sub (ws' := (wR cA h0 q1 q2 q3 q4 q5 q6 q7 rm fl us lg se we wh z0 nx md wr)) [0, 1, 2, 3, 4, 5, 6, 7] rfl
      have hDc := hD.sub (ws' := (wR cA h0 q1 q2 q3 q4 q5 q6 q7 rm fl us lg se we wh z0 nx md wr)) [0, 1, 2, 3, 4, 5, 6, 7] (by decide) rfl
      have hFc := va_free (wc := (wR cA h0 q1 q2 q3 q4 q5 q6 q7 rm fl us lg se we wh z0 nx md wr)) hD hS hA [0, 1, 2, 3, 4, 5, 6, 7] rfl
      refine va_callv (va_runV (As := [.int v1]) (rest := []) ⟨hx, hb, hml, hown, hts⟩ (c_R_cleanBlock l dC dI cA h0 q1 q2 q3 q4 q5 q6 q7 H.size rm fl us lg se we wh z0 nx md wr v1 fl29 us29 lg29 se29 we29 wh29 nx29 wr29 hc29) (cwV 1 hts (tg_V bq_3_39 bq_3_41 bq_s_24 bq_1_4 bq_3_42) rfl rfl rfl (by decide +kernel) ⟨Nat.le_of_ble_eq_true rfl, Nat.le_of_ble_eq_true rfl⟩) ⟨tx_blW, (va_recv (ci := 2) (q0 := 0) hK hP rfl rfl), tx_preW hPc hDc hK hNw⟩ rfl rfl hl.1 rfl (lv_room (Nat.le_of_ble_eq_true rfl)) d_R_clean_29 ⟨Nat.zero_le _, Nat.zero_le _⟩) hS (fun q _ h => hFc q h) hFc (fun _u t H locs ht hvm hw hB hz1 hk1 hS => ?_)
      obtain ⟨hP1, hD1⟩ := hB
      rw [ht] at hP1
      obtain ⟨hP2, hD2⟩ := va_join (wr := []) (w1 := (wR cA h0 q1 q2 q3 q4 q5 q6 q7 rm fl29 us29 lg29 se29 we29 wh29 z0 nx29 md wr29)) hP hD [0, 1, 2, 3, 4, 5, 6, 7] [] rfl rfl (by decide) (by decide) hk1 hFc hP1 hD1
      have hP := hP2.sub (ws' := (wR cA h0 q1 q2 q3 q4 q5 q6 q7 rm fl29 us29 lg29 se29 we29 wh29 z0 nx29 md wr29)) [0, 1, 2, 3, 4, 5, 6, 7] rfl
      have hD := hD2.sub (ws' := (wR cA h0 q1 q2 q3 q4 q5 q6 q7 rm fl29 us29 lg29 se29 we29 wh29 z0 nx29 md wr29)) [0, 1, 2, 3, 4, 5, 6, 7] (by decide) rfl
      refine lv_iload_n hx hb d_R_clean_32 rfl (lv_at hl 1 rfl) ?_
      cases hF
      exact W.iret hx hb hr (fun t ht hW => ⟨⟨_, (), rfl, rfl, by rw [ht]; exact hP, hD⟩, hS.F ht⟩) hS.2.2 d_R_clean_33
    · have hF := tx_f h22 hF
      refine lv_iconst (v := (0 : Int32)) hx hb d_R_clean_25 (by decide) ?_
      cases hF
      exact W.iret hx hb hr (fun t ht hW => ⟨⟨_, (), rfl, rfl, by rw [ht]; exact hP, hD⟩, hS.F ht⟩) hS.2.2 d_R_clean_26
  have hF : ((f_R_toClean us we).bind fun r1 => if 0 ≤ r1 then (f_R_clean_J15 rm fl us lg se we wh th nx wr r1 (0 : Int32)) else (f_R_clean_J15 rm fl us lg se we wh th nx wr r1 (1 : Int32))) = some (r, fl', us', lg', se', we', wh', th', nx', wr') := hF
  refine lv_aload_n hx hb d_R_clean_0 rfl (lv_at hl 0 rfl) ?_
  obtain ⟨r1, hc1, hF⟩ := tx_b hF
  refine vp_callSi (W.runV (As := []) (rest := []) ⟨hx, hb, hml, hown, hts⟩ (c_R_toClean l dC dI cA h0 q1 q2 q3 q4 q5 q6 q7 rm fl us lg se we wh th nx md wr r1 hc1) (cwV 0 hts (tg_V bq_3_27 bq_3_29 bq_s_21 bq_1_4 bq_3_30) rfl rfl rfl (by decide +kernel) ⟨Nat.le_of_ble_eq_true rfl, Nat.le_of_ble_eq_true rfl⟩) ⟨tx_blR, (va_recv (ci := 2) (q0 := 0) hK hP rfl rfl), tx_preR (hP) hK⟩ rfl rfl hl.1 rfl (lv_room (Nat.le_of_ble_eq_true rfl)) d_R_clean_1 ⟨Nat.zero_le _, Nat.zero_le _⟩) (fun zz hz => ?_)
  subst hz
  refine lv_istore_n hx hb d_R_clean_4 rfl hl (by decide) rfl (fun ls hl => ?_)
  have hl : lv_has ls 2 [(1, .int r1), (0, .ref h0)] := hl
  refine lv_aload_n hx hb d_R_clean_5 rfl (lv_at hl 1 rfl) ?_
  refine lv_iload_n hx hb d_R_clean_6 rfl (lv_at hl 0 rfl) ?_
  refine lv_if_ge hx hb d_R_clean_7 (tgt := 14) (by decide) (fun h7 => ?_) (fun h7 => ?_)
  · have hF := tx_t h7 hF
    refine lv_iconst (v := (0 : Int32)) hx hb d_R_clean_14 (by decide) ?_
    exact J15 _ _ _ fl us lg se we wh th nx wr r1 (0 : Int32) hP hD hS (lv_sub hl [1, 0] rfl) hF
  · have hF := tx_f h7 hF
    refine lv_iconst (v := (1 : Int32)) hx hb d_R_clean_10 (by decide) ?_
    refine lv_goto hx hb d_R_clean_11 (tgt := 15) (by decide) ?_
    exact J15 _ _ _ fl us lg se we wh th nx wr r1 (1 : Int32) hP hD hS (lv_sub hl [1, 0] rfl) hF
abbrev rm_R_write : Room := { frames := 5, cells := 0, slots := 0, locals := 115 }
set_option maxHeartbeats 4000000 in
set_option maxRecDepth 100000 in
theorem c_R_write (l : Launch) (dC : Nat → ClassId) (dI : Nat → Nat → Nat) (cA : ClassId) (h0 q1 q2 q3 q4 q5 q6 q7 sz : Nat) (rm fl us lg se we wh : Nat → Int32) (th nx md wr : Int32) (a1 : Int32) (a2 : Int64) (fl' : Nat → Int32) (us' : Nat → Int32) (lg' : Nat → Int32) (se' : Nat → Int32) (we' : Nat → Int32) (wh' : Nat → Int32) (th' : Int32) (nx' : Int32) (wr' : Int32) (hF : f_R_write rm fl us lg se we wh th nx wr a1 a2 = some (fl', us', lg', se', we', wh', th', nx', wr')) : Met l y_R_write ws_R_write rm_R_write (tx_PW [.ref h0, .int a1, .long a2] (dC, dI) [(cA, .int)] (wR cA h0 q1 q2 q3 q4 q5 q6 q7 rm fl us lg se we wh th nx md wr) sz) (va_Qv (S := Unit) (fun _ => True) (fun _ t => va_P (dC, dI) vwCl (wR cA h0 q1 q2 q3 q4 q5 q6 q7 rm (fl') (us') (lg') (se') (we') (wh') (th') (nx') md (wr')) t.heap ∧ va_D (va_A (wR cA h0 q1 q2 q3 q4 q5 q6 q7 rm fl us lg se we wh th nx md wr) sz) (wR cA h0 q1 q2 q3 q4 q5 q6 q7 rm (fl') (us') (lg') (se') (we') (wh') (th') (nx') md (wr'))) (va_A (wR cA h0 q1 q2 q3 q4 q5 q6 q7 rm fl us lg se we wh th nx md wr) sz)) 0 0 (va_A (wR cA h0 q1 q2 q3 q4 q5 q6 q7 rm fl us lg se we wh th nx md wr) sz) := by
  refine Met.ofW (cc := b_R_write) (maxL := 5) (ret := none) (by decide +kernel) rfl ?_
  intro p e s m args below meth c s₁ B hml hv
  obtain ⟨hargs, hsz, hP, hK, hD0, hNw⟩ := hv
  have hx := B.exec
  have hb := B.bytes
  have hr := B.returns
  have hts := atoms_spec (ws := ws_R_write) B.pre
  have hown : s.vm.findClass "FlashStoreModel" = some m.cls := findClass_of_methodNamed B.named
  have hlocks := B.notSynchronized
  subst hsz
  have hD := hD0.self (sz := s.heap.size)
  generalize hAe : va_A (wR cA h0 q1 q2 q3 q4 q5 q6 q7 rm fl us lg se we wh th nx md wr) s.heap.size = A at hD ⊢
  have hA : ∀ q : Nat, s.heap.size ≤ q → A q := fun q h => by rw [← hAe]; exact Or.inr h
  have hS : va_S A s.heap s.heap [] := va_S.rf
  have hP : va_P (dC, dI) vwCl (wR cA h0 q1 q2 q3 q4 q5 q6 q7 rm fl us lg se we wh th nx md wr) s.heap := hP
  have w0 := (hts _ (List.mem_cons_of_mem _ bq_2_192))
  have hl := lv_entry ([.ref h0, .int a1, .long a2]) (n := 5) (Nat.le_of_ble_eq_true rfl)
  have hen : entryFrame m args 5 = _ := (congrArg (fun z => entryFrame m z 5) hargs).trans (lg_entry_eq m ([.ref h0, .int a1, .long a2]) 5)
  refine W.eq hen ?_
  clear hen
  generalize (lg_sl ([.ref h0, .int a1, .long a2]) ++ List.replicate (5 - (lg_sl ([.ref h0, .int a1, .long a2])).length) Slot.unset).toArray = ls at hl ⊢
  have hl : lv_has ls 5 [(0, .ref h0), (1, .int a1), (2, .long a2)] := hl
  have J83 : ∀ (rc : (Nat → Int32) → (Nat → Int32) → (Nat → Int32) → (Nat → Int32) → (Nat → Int32) → (Nat → Int32) → (Nat → Int32) → Int32 → Int32 → Int32 → Int32 → Int64 → Option ((Nat → Int32) × (Nat → Int32) × (Nat → Int32) × (Nat → Int32) × (Nat → Int32) × (Nat → Int32) × Int32 × Int32 × Int32)) (hrec0 : ∀ (H : Heap) (locs : List Loc) (ls : Array Slot) (fl : Nat → Int32) (us : Nat → Int32) (lg : Nat → Int32) (se : Nat → Int32) (we : Nat → Int32) (wh : Nat → Int32) (th : Int32) (nx : Int32) (wr : Int32) (v1 : Int32) (v2 : Int64), va_P (dC, dI) vwCl (wR cA h0 q1 q2 q3 q4 q5 q6 q7 rm fl us lg se we wh th nx md wr) H → va_D A (wR cA h0 q1 q2 q3 q4 q5 q6 q7 rm fl us lg se we wh th nx md wr) → va_S A s.heap H locs → lv_has ls 5 [(0, .ref h0), (1, .int v1), (2, .long v2)] → rc rm fl us lg se we wh th nx wr v1 v2 = some (fl', us', lg', se', we', wh', th', nx', wr') → W p l e (headSpec ws_R_write rm_R_write).room s m args below meth c H locs 0 0 (MQ below (va_Qv (S := Unit) (fun _ => True) (fun _ t => va_P (dC, dI) vwCl (wR cA h0 q1 q2 q3 q4 q5 q6 q7 rm (fl') (us') (lg') (se') (we') (wh') (th') (nx') md (wr')) t.heap ∧ va_D A (wR cA h0 q1 q2 q3 q4 q5 q6 q7 rm (fl') (us') (lg') (se') (we') (wh') (th') (nx') md (wr'))) A) args s 0 0 A) (F0 m 18 ls [])), ∀ (H : Heap) (locs : List Loc) (ls : Array Slot) (fl : Nat → Int32) (us : Nat → Int32) (lg : Nat → Int32) (se : Nat → Int32) (we : Nat → Int32) (wh : Nat → Int32) (th : Int32) (nx : Int32) (wr : Int32), va_P (dC, dI) vwCl (wR cA h0 q1 q2 q3 q4 q5 q6 q7 rm fl us lg se we wh th nx md wr) H → va_D A (wR cA h0 q1 q2 q3 q4 q5 q6 q7 rm fl us lg se we wh th nx md wr) → va_S A s.heap H locs → lv_has ls 5 [] → f_R_write_J83 rc rm fl us lg se we wh th nx wr = some (fl', us', lg', se', we', wh', th', nx', wr') → W p l e (headSpec ws_R_write rm_R_write).room s m args below meth c H locs 0 0 (MQ below (va_Qv (S := Unit) (fun _ => True) (fun _ t => va_P (dC, dI) vwCl (wR cA h0 q1 q2 q3 q4 q5 q6 q7 rm (fl') (us') (lg') (se') (we') (wh') (th') (nx') md (wr')) t.heap ∧ va_D A (wR cA h0 q1 q2 q3 q4 q5 q6 q7 rm (fl') (us') (lg') (se') (we') (wh') (th') (nx') md (wr'))) A) args s 0 0 A) (F0 m 83 ls []) := by
    intro rc hrec0
    intro H locs ls fl us lg se we wh th nx wr hP hD hS hl hF
    have hF : (some (fl, us, lg, se, we, wh, th, nx, wr)) = some (fl', us', lg', se', we', wh', th', nx', wr') := hF
    cases hF
    exact W.vret hx hb hr (fun t ht hW => ⟨⟨(), rfl, trivial, by rw [ht]; exact hP, hD⟩, hS.F ht⟩) hS.2.2 d_R_write_83
  have J65 : ∀ (rc : (Nat → Int32) → (Nat → Int32) → (Nat → Int32) → (Nat → Int32) → (Nat → Int32) → (Nat → Int32) → (Nat → Int32) → Int32 → Int32 → Int32 → Int32 → Int64 → Option ((Nat → Int32) × (Nat → Int32) × (Nat → Int32) × (Nat → Int32) × (Nat → Int32) × (Nat → Int32) × Int32 × Int32 × Int32)) (hrec0 : ∀ (H : Heap) (locs : List Loc) (ls : Array Slot) (fl : Nat → Int32) (us : Nat → Int32) (lg : Nat → Int32) (se : Nat → Int32) (we : Nat → Int32) (wh : Nat → Int32) (th : Int32) (nx : Int32) (wr : Int32) (v1 : Int32) (v2 : Int64), va_P (dC, dI) vwCl (wR cA h0 q1 q2 q3 q4 q5 q6 q7 rm fl us lg se we wh th nx md wr) H → va_D A (wR cA h0 q1 q2 q3 q4 q5 q6 q7 rm fl us lg se we wh th nx md wr) → va_S A s.heap H locs → lv_has ls 5 [(0, .ref h0), (1, .int v1), (2, .long v2)] → rc rm fl us lg se we wh th nx wr v1 v2 = some (fl', us', lg', se', we', wh', th', nx', wr') → W p l e (headSpec ws_R_write rm_R_write).room s m args below meth c H locs 0 0 (MQ below (va_Qv (S := Unit) (fun _ => True) (fun _ t => va_P (dC, dI) vwCl (wR cA h0 q1 q2 q3 q4 q5 q6 q7 rm (fl') (us') (lg') (se') (we') (wh') (th') (nx') md (wr')) t.heap ∧ va_D A (wR cA h0 q1 q2 q3 q4 q5 q6 q7 rm (fl') (us') (lg') (se') (we') (wh') (th') (nx') md (wr'))) A) args s 0 0 A) (F0 m 18 ls [])), ∀ (H : Heap) (locs : List Loc) (ls : Array Slot) (fl : Nat → Int32) (us : Nat → Int32) (lg : Nat → Int32) (se : Nat → Int32) (we : Nat → Int32) (wh : Nat → Int32) (th : Int32) (nx : Int32) (wr : Int32) (v1 : Int32) (v2 : Int64), va_P (dC, dI) vwCl (wR cA h0 q1 q2 q3 q4 q5 q6 q7 rm fl us lg se we wh th nx md wr) H → va_D A (wR cA h0 q1 q2 q3 q4 q5 q6 q7 rm fl us lg se we wh th nx md wr) → va_S A s.heap H locs → lv_has ls 5 [(0, .ref h0), (1, .int v1), (2, .long v2)] → f_R_write_J65 rc rm fl us lg se we wh th nx wr v1 v2 = some (fl', us', lg', se', we', wh', th', nx', wr') → W p l e (headSpec ws_R_write rm_R_write).room s m args below meth c H locs 0 0 (MQ below (va_Qv (S := Unit) (fun _ => True) (fun _ t => va_P (dC, dI) vwCl (wR cA h0 q1 q2 q3 q4 q5 q6 q7 rm (fl') (us') (lg') (se') (we') (wh') (th') (nx') md (wr')) t.heap ∧ va_D A (wR cA h0 q1 q2 q3 q4 q5 q6 q7 rm (fl') (us') (lg') (se') (we') (wh') (th') (nx') md (wr'))) A) args s 0 0 A) (F0 m 65 ls []) := by
    intro rc hrec0
    intro H locs ls fl us lg se we wh th nx wr v1 v2 hP hD hS hl hF
    have hF : (if th = 0 then ((f_R_placeBut us (-1 : Int32)).bind fun r75 => (f_R_put rm fl us lg se wh nx r75 v1 v2).bind fun (fl80, us80, lg80, se80, wh80, nx80) => f_R_write_J83 rc rm fl80 us80 lg80 se80 we wh80 th nx80 wr) else (f_R_write_J83 rc rm fl us lg se we wh th nx wr)) = some (fl', us', lg', se', we', wh', th', nx', wr') := hF
    refine lv_aload_n hx hb d_R_write_65 rfl (lv_at hl 0 rfl) ?_
    refine va_get (D := (dC, dI)) (ci := 2) (v := .int th) (C := "FlashStoreModel") (T := TR) (N := 11) hx hb hts inTR hown hK hP 0 rfl rfl 0 (by decide) w0 (fun _ h9 => h9) rfl d_R_write_66 ?_
    refine lv_if_ne hx hb d_R_write_69 (tgt := 83) (by decide) (fun h69 => ?_) (fun h69 => ?_)
    · have hF := tx_f h69 hF
      exact J83 _ hrec0 _ _ _ fl us lg se we wh th nx wr hP hD hS (lv_sub hl [] rfl) hF
    · have hF := tx_t h69 hF
      refine lv_aload_n hx hb d_R_write_72 rfl (lv_at hl 0 rfl) ?_
      refine lv_aload_n hx hb d_R_write_73 rfl (lv_at hl 0 rfl) ?_
      refine lv_iconst (v := (-1 : Int32)) hx hb d_R_write_74 (by decide) ?_
      obtain ⟨r75, hc75, hF⟩ := tx_b hF
      refine vp_callSi (W.runV (As := [.int (-1 : Int32)]) (rest := [.ref h0]) ⟨hx, hb, hml, hown, hts⟩ (c_R_placeBut l dC dI cA h0 q1 q2 q3 q4 q5 q6 q7 rm fl us lg se we wh th nx md wr (-1 : Int32) r75 hc75) (cwV 1 hts (tg_V bq_3_47 bq_3_49 bq_s_26 bq_1_4 bq_3_50) rfl rfl rfl (by decide +kernel) ⟨Nat.le_of_ble_eq_true rfl, Nat.le_of_ble_eq_true rfl⟩) ⟨tx_blR, (va_recv (ci := 2) (q0 := 0) hK hP rfl rfl), tx_preR (hP) hK⟩ rfl rfl hl.1 rfl (lv_room (Nat.le_of_ble_eq_true rfl)) d_R_write_75 ⟨Nat.zero_le _, Nat.zero_le _⟩) (fun zz hz => ?_)
      subst hz
      refine lv_iload_n hx hb d_R_write_78 rfl (lv_at hl 1 rfl) ?_
      refine lv_lload_n hx hb d_R_write_79 rfl (lv_at hl 2 rfl) ?_
      obtain ⟨⟨fl80, us80, lg80, se80, wh80, nx80⟩, hc80, hF⟩ := tx_b hF
      try dsimp only at hF
      have hPc := hP.sub (ws' := (wR cA h0 q1 q2 q3 q4 q5 q6 q7 rm fl us lg se we wh th nx md wr)) [0, 1, 2, 3, 4, 5, 6, 7] rfl
      have hDc := hD.sub (ws' := (wR cA h0 q1 q2 q3 q4 q5 q6 q7 rm fl us lg se we wh th nx md wr)) [0, 1, 2, 3, 4, 5, 6, 7] (by decide) rfl
      have hFc := va_free (wc := (wR cA h0 q1 q2 q3 q4 q5 q6 q7 rm fl us lg se we wh th nx md wr)) hD hS hA [0, 1, 2, 3, 4, 5, 6, 7] rfl
      refine va_callv (va_runV (As := [.int r75, .int v1, .long v2]) (rest := []) ⟨hx, hb, hml, hown, hts⟩ (c_R_put l dC dI cA h0 q1 q2 q3 q4 q5 q6 q7 H.size rm fl us lg se we wh th nx md wr r75 v1 v2 fl80 us80 lg80 se80 wh80 nx80 hc80) (cwV 3 hts (tg_V bq_3_55 bq_3_57 bq_s_28 bq_1_4 bq_3_58) rfl rfl rfl (by decide +kernel) ⟨Nat.le_of_ble_eq_true rfl, Nat.le_of_ble_eq_true rfl⟩) ⟨tx_blW, (va_recv (ci := 2) (q0 := 0) hK hP rfl rfl), tx_preW hPc hDc hK hNw⟩ rfl rfl hl.1 rfl (lv_room (Nat.le_of_ble_eq_true rfl)) d_R_write_80 ⟨Nat.zero_le _, Nat.zero_le _⟩) hS (fun q _ h => hFc q h) hFc (fun _u t H locs ht hvm hw hB hz1 hk1 hS => ?_)
      obtain ⟨hP1, hD1⟩ := hB
      rw [ht] at hP1
      obtain ⟨hP2, hD2⟩ := va_join (wr := []) (w1 := (wR cA h0 q1 q2 q3 q4 q5 q6 q7 rm fl80 us80 lg80 se80 we wh80 th nx80 md wr)) hP hD [0, 1, 2, 3, 4, 5, 6, 7] [] rfl rfl (by decide) (by decide) hk1 hFc hP1 hD1
      have hP := hP2.sub (ws' := (wR cA h0 q1 q2 q3 q4 q5 q6 q7 rm fl80 us80 lg80 se80 we wh80 th nx80 md wr)) [0, 1, 2, 3, 4, 5, 6, 7] rfl
      have hD := hD2.sub (ws' := (wR cA h0 q1 q2 q3 q4 q5 q6 q7 rm fl80 us80 lg80 se80 we wh80 th nx80 md wr)) [0, 1, 2, 3, 4, 5, 6, 7] (by decide) rfl
      exact J83 _ hrec0 _ _ _ fl80 us80 lg80 se80 we wh80 th nx80 wr hP hD hS (lv_sub hl [] rfl) hF
  have J62 : ∀ (rc : (Nat → Int32) → (Nat → Int32) → (Nat → Int32) → (Nat → Int32) → (Nat → Int32) → (Nat → Int32) → (Nat → Int32) → Int32 → Int32 → Int32 → Int32 → Int64 → Option ((Nat → Int32) × (Nat → Int32) × (Nat → Int32) × (Nat → Int32) × (Nat → Int32) × (Nat → Int32) × Int32 × Int32 × Int32)) (hrec0 : ∀ (H : Heap) (locs : List Loc) (ls : Array Slot) (fl : Nat → Int32) (us : Nat → Int32) (lg : Nat → Int32) (se : Nat → Int32) (we : Nat → Int32) (wh : Nat → Int32) (th : Int32) (nx : Int32) (wr : Int32) (v1 : Int32) (v2 : Int64), va_P (dC, dI) vwCl (wR cA h0 q1 q2 q3 q4 q5 q6 q7 rm fl us lg se we wh th nx md wr) H → va_D A (wR cA h0 q1 q2 q3 q4 q5 q6 q7 rm fl us lg se we wh th nx md wr) → va_S A s.heap H locs → lv_has ls 5 [(0, .ref h0), (1, .int v1), (2, .long v2)] → rc rm fl us lg se we wh th nx wr v1 v2 = some (fl', us', lg', se', we', wh', th', nx', wr') → W p l e (headSpec ws_R_write rm_R_write).room s m args below meth c H locs 0 0 (MQ below (va_Qv (S := Unit) (fun _ => True) (fun _ t => va_P (dC, dI) vwCl (wR cA h0 q1 q2 q3 q4 q5 q6 q7 rm (fl') (us') (lg') (se') (we') (wh') (th') (nx') md (wr')) t.heap ∧ va_D A (wR cA h0 q1 q2 q3 q4 q5 q6 q7 rm (fl') (us') (lg') (se') (we') (wh') (th') (nx') md (wr'))) A) args s 0 0 A) (F0 m 18 ls [])), ∀ (H : Heap) (locs : List Loc) (ls : Array Slot) (fl : Nat → Int32) (us : Nat → Int32) (lg : Nat → Int32) (se : Nat → Int32) (we : Nat → Int32) (wh : Nat → Int32) (th : Int32) (nx : Int32) (wr : Int32) (v1 : Int32) (v2 : Int64), va_P (dC, dI) vwCl (wR cA h0 q1 q2 q3 q4 q5 q6 q7 rm fl us lg se we wh th nx md wr) H → va_D A (wR cA h0 q1 q2 q3 q4 q5 q6 q7 rm fl us lg se we wh th nx md wr) → va_S A s.heap H locs → lv_has ls 5 [(0, .ref h0), (1, .int v1), (2, .long v2)] → f_R_write_J62 rc rm fl us lg se we wh th nx wr v1 v2 = some (fl', us', lg', se', we', wh', th', nx', wr') → W p l e (headSpec ws_R_write rm_R_write).room s m args below meth c H locs 0 0 (MQ below (va_Qv (S := Unit) (fun _ => True) (fun _ t => va_P (dC, dI) vwCl (wR cA h0 q1 q2 q3 q4 q5 q6 q7 rm (fl') (us') (lg') (se') (we') (wh') (th') (nx') md (wr')) t.heap ∧ va_D A (wR cA h0 q1 q2 q3 q4 q5 q6 q7 rm (fl') (us') (lg') (se') (we') (wh') (th') (nx') md (wr'))) A) args s 0 0 A) (F0 m 62 ls []) := by
    intro rc hrec0
    intro H locs ls fl us lg se we wh th nx wr v1 v2 hP hD hS hl hF
    have hF : (rc rm fl us lg se we wh th nx wr v1 v2) = some (fl', us', lg', se', we', wh', th', nx', wr') := hF
    refine lv_goto hx hb d_R_write_62 (tgt := 18) (by decide) ?_
    exact hrec0 _ _ _ fl us lg se we wh th nx wr v1 v2 hP hD hS hl hF
  have J15 : ∀ (rc : (Nat → Int32) → (Nat → Int32) → (Nat → Int32) → (Nat → Int32) → (Nat → Int32) → (Nat → Int32) → (Nat → Int32) → Int32 → Int32 → Int32 → Int32 → Int64 → Option ((Nat → Int32) × (Nat → Int32) × (Nat → Int32) × (Nat → Int32) × (Nat → Int32) × (Nat → Int32) × Int32 × Int32 × Int32)) (hrec0 : ∀ (H : Heap) (locs : List Loc) (ls : Array Slot) (fl : Nat → Int32) (us : Nat → Int32) (lg : Nat → Int32) (se : Nat → Int32) (we : Nat → Int32) (wh : Nat → Int32) (th : Int32) (nx : Int32) (wr : Int32) (v1 : Int32) (v2 : Int64), va_P (dC, dI) vwCl (wR cA h0 q1 q2 q3 q4 q5 q6 q7 rm fl us lg se we wh th nx md wr) H → va_D A (wR cA h0 q1 q2 q3 q4 q5 q6 q7 rm fl us lg se we wh th nx md wr) → va_S A s.heap H locs → lv_has ls 5 [(0, .ref h0), (1, .int v1), (2, .long v2)] → rc rm fl us lg se we wh th nx wr v1 v2 = some (fl', us', lg', se', we', wh', th', nx', wr') → W p l e (headSpec ws_R_write rm_R_write).room s m args below meth c H locs 0 0 (MQ below (va_Qv (S := Unit) (fun _ => True) (fun _ t => va_P (dC, dI) vwCl (wR cA h0 q1 q2 q3 q4 q5 q6 q7 rm (fl') (us') (lg') (se') (we') (wh') (th') (nx') md (wr')) t.heap ∧ va_D A (wR cA h0 q1 q2 q3 q4 q5 q6 q7 rm (fl') (us') (lg') (se') (we') (wh') (th') (nx') md (wr'))) A) args s 0 0 A) (F0 m 18 ls [])), ∀ (H : Heap) (locs : List Loc) (ls : Array Slot) (fl : Nat → Int32) (us : Nat → Int32) (lg : Nat → Int32) (se : Nat → Int32) (we : Nat → Int32) (wh : Nat → Int32) (th : Int32) (nx : Int32) (wr : Int32) (v1 : Int32) (v2 : Int64) (z0 : Int32), va_P (dC, dI) vwCl (wR cA h0 q1 q2 q3 q4 q5 q6 q7 rm fl us lg se we wh th nx md wr) H → va_D A (wR cA h0 q1 q2 q3 q4 q5 q6 q7 rm fl us lg se we wh th nx md wr) → va_S A s.heap H locs → lv_has ls 5 [(0, .ref h0), (1, .int v1), (2, .long v2)] → f_R_write_J15 rc rm fl us lg se we wh th nx wr v1 v2 z0 = some (fl', us', lg', se', we', wh', th', nx', wr') → W p l e (headSpec ws_R_write rm_R_write).room s m args below meth c H locs 0 0 (MQ below (va_Qv (S := Unit) (fun _ => True) (fun _ t => va_P (dC, dI) vwCl (wR cA h0 q1 q2 q3 q4 q5 q6 q7 rm (fl') (us') (lg') (se') (we') (wh') (th') (nx') md (wr')) t.heap ∧ va_D A (wR cA h0 q1 q2 q3 q4 q5 q6 q7 rm (fl') (us') (lg') (se') (we') (wh') (th') (nx') md (wr'))) A) args s 0 0 A) (F0 m 15 ls [.int z0, .ref h0]) := by
    intro rc hrec0
    intro H locs ls fl us lg se we wh th nx wr v1 v2 z0 hP hD hS hl hF
    have hF : (rc rm fl us lg se we wh z0 nx wr v1 v2) = some (fl', us', lg', se', we', wh', th', nx', wr') := hF
    refine va_put (D := (dC, dI)) (ci := 2) (v := .int z0) (ty := .int) (C := "FlashStoreModel") (T := TR) (N := 11) hx hb hts inTR tyTR tyTR_ok nmTR hown hK hP hD hS 0 rfl rfl 0 (by decide) w0 (fun _ h9 => h9) rfl (by decide +kernel) rfl rfl (Nat.le_of_ble_eq_true rfl) d_R_write_15 (fun H locs hP hD hS => ?_)
    have hP : va_P (dC, dI) vwCl (wR cA h0 q1 q2 q3 q4 q5 q6 q7 rm fl us lg se we wh z0 nx md wr) H := hP
    have hD : va_D A (wR cA h0 q1 q2 q3 q4 q5 q6 q7 rm fl us lg se we wh z0 nx md wr) := hD
    exact hrec0 _ _ _ fl us lg se we wh z0 nx wr v1 v2 hP hD hS hl hF
  have LH : ∀ n : Nat, (∀ (H : Heap) (locs : List Loc) (ls : Array Slot) (fl : Nat → Int32) (us : Nat → Int32) (lg : Nat → Int32) (se : Nat → Int32) (we : Nat → Int32) (wh : Nat → Int32) (th : Int32) (nx : Int32) (wr : Int32) (v1 : Int32) (v2 : Int64), va_P (dC, dI) vwCl (wR cA h0 q1 q2 q3 q4 q5 q6 q7 rm fl us lg se we wh th nx md wr) H → va_D A (wR cA h0 q1 q2 q3 q4 q5 q6 q7 rm fl us lg se we wh th nx md wr) → va_S A s.heap H locs → lv_has ls 5 [(0, .ref h0), (1, .int v1), (2, .long v2)] → f_R_write_H n rm fl us lg se we wh th nx wr v1 v2 = some (fl', us', lg', se', we', wh', th', nx', wr') → W p l e (headSpec ws_R_write rm_R_write).room s m args below meth c H locs 0 0 (MQ below (va_Qv (S := Unit) (fun _ => True) (fun _ t => va_P (dC, dI) vwCl (wR cA h0 q1 q2 q3 q4 q5 q6 q7 rm (fl') (us') (lg') (se') (we') (wh') (th') (nx') md (wr')) t.heap ∧ va_D A (wR cA h0 q1 q2 q3 q4 q5 q6 q7 rm (fl') (us') (lg') (se') (we') (wh') (th') (nx') md (wr'))) A) args s 0 0 A) (F0 m 18 ls [])) := by
    intro n
    induction n with
    | zero =>
      exact (by intro H locs ls fl us lg se we wh th nx wr v1 v2 hP hD hS hl hF; have hF : (none : Option ((Nat → Int32) × (Nat → Int32) × (Nat → Int32) × (Nat → Int32) × (Nat → Int32) × (Nat → Int32) × Int32 × Int32 × Int32)) = _ := hF; cases hF)
    | succ n ih =>
      have hrec0 := ih
      intro H locs ls fl us lg se we wh th nx wr v1 v2 hP hD hS hl hF
      have hF : (if th = 0 then ((f_R_placeBut us (-1 : Int32)).bind fun r28 => (f_R_leavesOne us r28).bind fun r31 => if r31 = 0 then ((f_R_toClean us we).bind fun r38 => if 0 ≤ r38 then ((f_R_cleanBlock rm fl us lg se we wh nx wr r38).bind fun (fl59, us59, lg59, se59, we59, wh59, nx59, wr59) => f_R_write_J62 (f_R_write_H n) rm fl59 us59 lg59 se59 we59 wh59 th nx59 wr59 v1 v2) else (f_R_write_J62 (f_R_write_H n) rm fl us lg se we wh (2 : Int32) nx wr v1 v2)) else (f_R_write_J65 (f_R_write_H n) rm fl us lg se we wh th nx wr v1 v2)) else (f_R_write_J65 (f_R_write_H n) rm fl us lg se we wh th nx wr v1 v2)) = some (fl', us', lg', se', we', wh', th', nx', wr') := hF
      refine lv_aload_n hx hb d_R_write_18 rfl (lv_at hl 0 rfl) ?_
      refine va_get (D := (dC, dI)) (ci := 2) (v := .int th) (C := "FlashStoreModel") (T := TR) (N := 11) hx hb hts inTR hown hK hP 0 rfl rfl 0 (by decide) w0 (fun _ h9 => h9) rfl d_R_write_19 ?_
      refine lv_if_ne hx hb d_R_write_22 (tgt := 65) (by decide) (fun h22 => ?_) (fun h22 => ?_)
      · have hF := tx_f h22 hF
        exact J65 _ hrec0 _ _ _ fl us lg se we wh th nx wr v1 v2 hP hD hS hl hF
      · have hF := tx_t h22 hF
        refine lv_aload_n hx hb d_R_write_25 rfl (lv_at hl 0 rfl) ?_
        refine lv_aload_n hx hb d_R_write_26 rfl (lv_at hl 0 rfl) ?_
        refine lv_iconst (v := (-1 : Int32)) hx hb d_R_write_27 (by decide) ?_
        obtain ⟨r28, hc28, hF⟩ := tx_b hF
        refine vp_callSi (W.runV (As := [.int (-1 : Int32)]) (rest := [.ref h0]) ⟨hx, hb, hml, hown, hts⟩ (c_R_placeBut l dC dI cA h0 q1 q2 q3 q4 q5 q6 q7 rm fl us lg se we wh th nx md wr (-1 : Int32) r28 hc28) (cwV 1 hts (tg_V bq_3_47 bq_3_49 bq_s_26 bq_1_4 bq_3_50) rfl rfl rfl (by decide +kernel) ⟨Nat.le_of_ble_eq_true rfl, Nat.le_of_ble_eq_true rfl⟩) ⟨tx_blR, (va_recv (ci := 2) (q0 := 0) hK hP rfl rfl), tx_preR (hP) hK⟩ rfl rfl hl.1 rfl (lv_room (Nat.le_of_ble_eq_true rfl)) d_R_write_28 ⟨Nat.zero_le _, Nat.zero_le _⟩) (fun zz hz => ?_)
        subst hz
        obtain ⟨r31, hc31, hF⟩ := tx_b hF
        refine vp_callSi (W.runV (As := [.int r28]) (rest := []) ⟨hx, hb, hml, hown, hts⟩ (c_R_leavesOne l dC dI cA h0 q1 q2 q3 q4 q5 q6 q7 rm fl us lg se we wh th nx md wr r28 r31 hc31) (cwV 1 hts (tg_V bq_3_68 bq_3_70 bq_s_30 bq_1_4 bq_3_71) rfl rfl rfl (by decide +kernel) ⟨Nat.le_of_ble_eq_true rfl, Nat.le_of_ble_eq_true rfl⟩) ⟨tx_blR, (va_recv (ci := 2) (q0 := 0) hK hP rfl rfl), tx_preR (hP) hK⟩ rfl rfl hl.1 rfl (lv_room (Nat.le_of_ble_eq_true rfl)) d_R_write_31 ⟨Nat.zero_le _, Nat.zero_le _⟩) (fun zz hz => ?_)
        subst hz
        refine lv_if_ne hx hb d_R_write_34 (tgt := 65) (by decide) (fun h34 => ?_) (fun h34 => ?_)
        · have hF := tx_f h34 hF
          exact J65 _ hrec0 _ _ _ fl us lg se we wh th nx wr v1 v2 hP hD hS hl hF
        · have hF := tx_t h34 hF
          refine lv_aload_n hx hb d_R_write_37 rfl (lv_at hl 0 rfl) ?_
          obtain ⟨r38, hc38, hF⟩ := tx_b hF
          refine vp_callSi (W.runV (As := []) (rest := []) ⟨hx, hb, hml, hown, hts⟩ (c_R_toClean l dC dI cA h0 q1 q2 q3 q4 q5 q6 q7 rm fl us lg se we wh th nx md wr r38 hc38) (cwV 0 hts (tg_V bq_3_27 bq_3_29 bq_s_21 bq_1_4 bq_3_30) rfl rfl rfl (by decide +kernel) ⟨Nat.le_of_ble_eq_true rfl, Nat.le_of_ble_eq_true rfl⟩) ⟨tx_blR, (va_recv (ci := 2) (q0 := 0) hK hP rfl rfl), tx_preR (hP) hK⟩ rfl rfl hl.1 rfl (lv_room (Nat.le_of_ble_eq_true rfl)) d_R_write_38 ⟨Nat.zero_le _, Nat.zero_le _⟩) (fun zz hz => ?_)
          subst hz
          refine lv_istore hx hb d_R_write_41 hl (by decide) rfl (fun ls hl => ?_)
          have hl : lv_has ls 5 [(4, .int r38), (0, .ref h0), (1, .int v1), (2, .long v2)] := hl
          refine lv_iload hx hb d_R_write_43 (lv_at hl 0 rfl) ?_
          refine lv_if_ge hx hb d_R_write_45 (tgt := 56) (by decide) (fun h45 => ?_) (fun h45 => ?_)
          · have hF := tx_t h45 hF
            refine lv_aload_n hx hb d_R_write_56 rfl (lv_at hl 1 rfl) ?_
            refine lv_iload hx hb d_R_write_57 (lv_at hl 0 rfl) ?_
            obtain ⟨⟨fl59, us59, lg59, se59, we59, wh59, nx59, wr59⟩, hc59, hF⟩ := tx_b hF
            try dsimp only at hF
            have hPc := hP.sub (ws' := (wR cA h0 q1 q2 q3 q4 q5 q6 q7 rm fl us lg se we wh th nx md wr)) [0, 1, 2, 3, 4, 5, 6, 7] rfl
            have hDc := hD.sub (ws' := (wR cA h0 q1 q2 q3 q4 q5 q6 q7 rm fl us lg se we wh th nx md wr)) [0, 1, 2, 3, 4, 5, 6, 7] (by decide) rfl
            have hFc := va_free (wc := (wR cA h0 q1 q2 q3 q4 q5 q6 q7 rm fl us lg se we wh th nx md wr)) hD hS hA [0, 1, 2, 3, 4, 5, 6, 7] rfl
            refine va_callv (va_runV (As := [.int r38]) (rest := []) ⟨hx, hb, hml, hown, hts⟩ (c_R_cleanBlock l dC dI cA h0 q1 q2 q3 q4 q5 q6 q7 H.size rm fl us lg se we wh th nx md wr r38 fl59 us59 lg59 se59 we59 wh59 nx59 wr59 hc59) (cwV 1 hts (tg_V bq_3_39 bq_3_41 bq_s_24 bq_1_4 bq_3_42) rfl rfl rfl (by decide +kernel) ⟨Nat.le_of_ble_eq_true rfl, Nat.le_of_ble_eq_true rfl⟩) ⟨tx_blW, (va_recv (ci := 2) (q0 := 0) hK hP rfl rfl), tx_preW hPc hDc hK hNw⟩ rfl rfl hl.1 rfl (lv_room (Nat.le_of_ble_eq_true rfl)) d_R_write_59 ⟨Nat.zero_le _, Nat.zero_le _⟩) hS (fun q _ h => hFc q h) hFc (fun _u t H locs ht hvm hw hB hz1 hk1 hS => ?_)
            obtain ⟨hP1, hD1⟩ := hB
            rw [ht] at hP1
            obtain ⟨hP2, hD2⟩ := va_join (wr := []) (w1 := (wR cA h0 q1 q2 q3 q4 q5 q6 q7 rm fl59 us59 lg59 se59 we59 wh59 th nx59 md wr59)) hP hD [0, 1, 2, 3, 4, 5, 6, 7] [] rfl rfl (by decide) (by decide) hk1 hFc hP1 hD1
            have hP := hP2.sub (ws' := (wR cA h0 q1 q2 q3 q4 q5 q6 q7 rm fl59 us59 lg59 se59 we59 wh59 th nx59 md wr59)) [0, 1, 2, 3, 4, 5, 6, 7] rfl
            have hD := hD2.sub (ws' := (wR cA h0 q1 q2 q3 q4 q5 q6 q7 rm fl59 us59 lg59 se59 we59 wh59 th nx59 md wr59)) [0, 1, 2, 3, 4, 5, 6, 7] (by decide) rfl
            exact J62 _ hrec0 _ _ _ fl59 us59 lg59 se59 we59 wh59 th nx59 wr59 v1 v2 hP hD hS (lv_sub hl [1, 2, 3] rfl) hF
          · have hF := tx_f h45 hF
            refine lv_aload_n hx hb d_R_write_48 rfl (lv_at hl 1 rfl) ?_
            refine lv_iconst (v := (2 : Int32)) hx hb d_R_write_49 (by decide) ?_
            refine va_put (D := (dC, dI)) (ci := 2) (v := .int (2 : Int32)) (ty := .int) (C := "FlashStoreModel") (T := TR) (N := 11) hx hb hts inTR tyTR tyTR_ok nmTR hown hK hP hD hS 0 rfl rfl 0 (by decide) w0 (fun _ h9 => h9) rfl (by decide +kernel) rfl rfl (Nat.le_of_ble_eq_true rfl) d_R_write_50 (fun H locs hP hD hS => ?_)
            have hP : va_P (dC, dI) vwCl (wR cA h0 q1 q2 q3 q4 q5 q6 q7 rm fl us lg se we wh (2 : Int32) nx md wr) H := hP
            have hD : va_D A (wR cA h0 q1 q2 q3 q4 q5 q6 q7 rm fl us lg se we wh (2 : Int32) nx md wr) := hD
            refine lv_goto hx hb d_R_write_53 (tgt := 62) (by decide) ?_
            exact J62 _ hrec0 _ _ _ fl us lg se we wh (2 : Int32) nx wr v1 v2 hP hD hS (lv_sub hl [1, 2, 3] rfl) hF
  obtain hrec0 := LH 100
  have hF : ((f_R_out a1 (8 : Int32)).bind fun r4 => if r4 = 0 then (f_R_write_J15 (f_R_write_H 100) rm fl us lg se we wh th nx wr a1 a2 (0 : Int32)) else (f_R_write_J15 (f_R_write_H 100) rm fl us lg se we wh th nx wr a1 a2 (1 : Int32))) = some (fl', us', lg', se', we', wh', th', nx', wr') := hF
  refine lv_aload_n hx hb d_R_write_0 rfl (lv_at hl 0 rfl) ?_
  refine lv_iload_n hx hb d_R_write_1 rfl (lv_at hl 1 rfl) ?_
  refine lv_bipush (v := (8 : Int32)) hx hb d_R_write_2 (by decide) ?_
  obtain ⟨r4, hc4, hF⟩ := tx_b hF
  refine vp_callSi (W.runS (As := [.int a1, .int (8 : Int32)]) (rest := [.ref h0]) ⟨hx, hb, hml, hown, hts⟩ (c_R_out l a1 (8 : Int32) r4 hc4) (va_cwS 2 hts (tg_S bq_2_235 bq_2_236 bq_1_4 bq_2_237) rfl rfl rfl (by decide +kernel) ⟨Nat.le_of_ble_eq_true rfl, Nat.le_of_ble_eq_true rfl⟩) ⟨tx_bl0, tx_pre0⟩ rfl rfl hl.1 rfl (lv_room (Nat.le_of_ble_eq_true rfl)) d_R_write_4 ⟨Nat.zero_le _, Nat.zero_le _⟩) (fun zz hz => ?_)
  subst hz
  refine lv_if_eq hx hb d_R_write_7 (tgt := 14) (by decide) (fun h7 => ?_) (fun h7 => ?_)
  · have hF := tx_t h7 hF
    refine lv_iconst (v := (0 : Int32)) hx hb d_R_write_14 (by decide) ?_
    exact J15 _ hrec0 _ _ _ fl us lg se we wh th nx wr a1 a2 (0 : Int32) hP hD hS hl hF
  · have hF := tx_f h7 hF
    refine lv_iconst (v := (1 : Int32)) hx hb d_R_write_10 (by decide) ?_
    refine lv_goto hx hb d_R_write_11 (tgt := 15) (by decide) ?_
    exact J15 _ hrec0 _ _ _ fl us lg se we wh th nx wr a1 a2 (1 : Int32) hP hD hS hl hF
