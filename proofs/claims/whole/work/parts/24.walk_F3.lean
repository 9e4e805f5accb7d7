abbrev rm_F_mended : Room := { frames := 0, cells := 0, slots := 0, locals := 0 }
set_option maxHeartbeats 4000000 in
set_option maxRecDepth 100000 in
theorem c_F_mended (l : Launch) (dC : Nat → ClassId) (dI : Nat → Nat → Nat) (cA : ClassId) (h0 q1 q2 q3 q4 q5 q6 : Nat) (st pl tk wd er : Nat → Int32) (nx md : Int32)  (r : Int32)  (hF : f_F_mended md = some r) : Met l y_F_mended ws_F_mended rm_F_mended (tx_PR [.ref h0] (dC, dI) [(cA, .int)] (wF cA h0 q1 q2 q3 q4 q5 q6 st pl tk wd er nx md)) (vp_Si (fun z => r = z)) 0 0 (fun _ => False) := by
  refine Met.ofW (cc := b_F_mended) (maxL := 1) (ret := some .int) (by decide +kernel) rfl ?_
  intro p e s m args below meth c s₁ B hml hv
  obtain ⟨hargs, hP, hK⟩ := hv
  have hx := B.exec
  have hb := B.bytes
  have hr := B.returns
  have hts := atoms_spec (ws := ws_F_mended) B.pre
  have hown : s.vm.findClass "FlashStore" = some m.cls := findClass_of_methodNamed B.named
  have hlocks := B.notSynchronized
  have w0 := (hts _ (List.mem_cons_of_mem _ bq_1_46))
  have hl := lv_entry ([.ref h0]) (n := 1) (Nat.le_of_ble_eq_true rfl)
  have hen : entryFrame m args 1 = _ := (congrArg (fun z => entryFrame m z 1) hargs).trans (lg_entry_eq m ([.ref h0]) 1)
  refine W.eq hen ?_
  clear hen
  generalize (lg_sl ([.ref h0]) ++ List.replicate (1 - (lg_sl ([.ref h0])).length) Slot.unset).toArray = ls at hl ⊢
  have hl : lv_has ls 1 [(0, .ref h0)] := hl
  have hF : (some md) = some r := hF
  refine lv_aload_n hx hb d_F_mended_0 rfl (lv_at hl 0 rfl) ?_
  refine va_get (D := (dC, dI)) (ci := 1) (v := .int md) (C := "FlashStore") (T := TF) (N := 6) hx hb hts inTF hown hK hP 0 rfl rfl 5 (by decide) w0 (fun _ h9 => h9) rfl d_F_mended_1 ?_
  exact W.iret hx hb hr (fun t ht hW => ⟨_, rfl, (Option.some.inj hF).symm, ht⟩) (fun q h => by cases h) d_F_mended_4
abbrev rm_F_write : Room := { frames := 7, cells := 0, slots := 0, locals := 159 }
set_option maxHeartbeats 4000000 in
set_option maxRecDepth 100000 in
theorem c_F_write (l : Launch) (dC : Nat → ClassId) (dI : Nat → Nat → Nat) (cA : ClassId) (h0 q1 q2 q3 q4 q5 q6 sz : Nat) (st pl tk wd er : Nat → Int32) (nx md : Int32) (a1 : Int32) (a2 : Int64) (st' : Nat → Int32) (pl' : Nat → Int32) (wd' : Nat → Int32) (er' : Nat → Int32) (nx' : Int32) (hF : f_F_write st pl wd er nx a1 a2 = some (st', pl', wd', er', nx')) : Met l y_F_write ws_F_write rm_F_write (tx_PW [.ref h0, .int a1, .long a2] (dC, dI) [(cA, .int)] (wF cA h0 q1 q2 q3 q4 q5 q6 st pl tk wd er nx md) sz) (va_Qv (S := Unit) (fun _ => True) (fun _ t => va_P (dC, dI) vwCl (wF cA h0 q1 q2 q3 q4 q5 q6 (st') (pl') tk (wd') (er') (nx') md) t.heap ∧ va_D (va_A (wF cA h0 q1 q2 q3 q4 q5 q6 st pl tk wd er nx md) sz) (wF cA h0 q1 q2 q3 q4 q5 q6 (st') (pl') tk (wd') (er') (nx') md)) (va_A (wF cA h0 q1 q2 q3 q4 q5 q6 st pl tk wd er nx md) sz)) 0 0 (va_A (wF cA h0 q1 q2 q3 q4 q5 q6 st pl tk wd er nx md) sz) := by
  refine Met.ofW (cc := b_F_write) (maxL := 6) (ret := none) (by decide +kernel) rfl ?_
  intro p e s m args below meth c s₁ B hml hv
  obtain ⟨hargs, hsz, hP, hK, hD0, hNw⟩ := hv
  have hx := B.exec
  have hb := B.bytes
  have hr := B.returns
  have hts := atoms_spec (ws := ws_F_write) B.pre
  have hown : s.vm.findClass "FlashStore" = some m.cls := findClass_of_methodNamed B.named
  have hlocks := B.notSynchronized
  subst hsz
  have hD := hD0.self (sz := s.heap.size)
  generalize hAe : va_A (wF cA h0 q1 q2 q3 q4 q5 q6 st pl tk wd er nx md) s.heap.size = A at hD ⊢
  have hA : ∀ q : Nat, s.heap.size ≤ q → A q := fun q h => by rw [← hAe]; exact Or.inr h
  have hS : va_S A s.heap s.heap [] := va_S.rf
  have hP : va_P (dC, dI) vwCl (wF cA h0 q1 q2 q3 q4 q5 q6 st pl tk wd er nx md) s.heap := hP
  have hl := lv_entry ([.ref h0, .int a1, .long a2]) (n := 6) (Nat.le_of_ble_eq_true rfl)
  have hen : entryFrame m args 6 = _ := (congrArg (fun z => entryFrame m z 6) hargs).trans (lg_entry_eq m ([.ref h0, .int a1, .long a2]) 6)
  refine W.eq hen ?_
  clear hen
  generalize (lg_sl ([.ref h0, .int a1, .long a2]) ++ List.replicate (6 - (lg_sl ([.ref h0, .int a1, .long a2])).length) Slot.unset).toArray = ls at hl ⊢
  have hl : lv_has ls 6 [(0, .ref h0), (1, .int a1), (2, .long a2)] := hl
  have J55 : ∀ (rc : (Nat → Int32) → (Nat → Int32) → (Nat → Int32) → (Nat → Int32) → Int32 → Int32 → Int64 → Int32 → Option ((Nat → Int32) × (Nat → Int32) × (Nat → Int32) × (Nat → Int32) × Int32)) (hrec0 : ∀ (H : Heap) (locs : List Loc) (ls : Array Slot) (st : Nat → Int32) (pl : Nat → Int32) (wd : Nat → Int32) (er : Nat → Int32) (nx : Int32) (v1 : Int32) (v2 : Int64) (v4 : Int32), va_P (dC, dI) vwCl (wF cA h0 q1 q2 q3 q4 q5 q6 st pl tk wd er nx md) H → va_D A (wF cA h0 q1 q2 q3 q4 q5 q6 st pl tk wd er nx md) → va_S A s.heap H locs → lv_has ls 6 [(0, .ref h0), (1, .int v1), (2, .long v2), (4, .int v4)] → rc st pl wd er nx v1 v2 v4 = some (st', pl', wd', er', nx') → W p l e (headSpec ws_F_write rm_F_write).room s m args below meth c H locs 0 0 (MQ below (va_Qv (S := Unit) (fun _ => True) (fun _ t => va_P (dC, dI) vwCl (wF cA h0 q1 q2 q3 q4 q5 q6 (st') (pl') tk (wd') (er') (nx') md) t.heap ∧ va_D A (wF cA h0 q1 q2 q3 q4 q5 q6 (st') (pl') tk (wd') (er') (nx') md)) A) args s 0 0 A) (F0 m 7 ls [])), ∀ (H : Heap) (locs : List Loc) (ls : Array Slot) (st : Nat → Int32) (pl : Nat → Int32) (wd : Nat → Int32) (er : Nat → Int32) (nx : Int32) (v1 : Int32) (v2 : Int64), va_P (dC, dI) vwCl (wF cA h0 q1 q2 q3 q4 q5 q6 st pl tk wd er nx md) H → va_D A (wF cA h0 q1 q2 q3 q4 q5 q6 st pl tk wd er nx md) → va_S A s.heap H locs → lv_has ls 6 [(0, .ref h0), (1, .int v1), (2, .long v2)] → f_F_write_J55 rc st pl wd er nx v1 v2 = some (st', pl', wd', er', nx') → W p l e (headSpec ws_F_write rm_F_write).room s m args below meth c H locs 0 0 (MQ below (va_Qv (S := Unit) (fun _ => True) (fun _ t => va_P (dC, dI) vwCl (wF cA h0 q1 q2 q3 q4 q5 q6 (st') (pl') tk (wd') (er') (nx') md) t.heap ∧ va_D A (wF cA h0 q1 q2 q3 q4 q5 q6 (st') (pl') tk (wd') (er') (nx') md)) A) args s 0 0 A) (F0 m 55 ls []) := by
    intro rc hrec0
    intro H locs ls st pl wd er nx v1 v2 hP hD hS hl hF
    have hF : ((f_F_put st pl wd nx v1 v2 (-1 : Int32)).bind fun (st59, pl59, wd59, nx59) => some (st59, pl59, wd59, er, nx59)) = some (st', pl', wd', er', nx') := hF
    refine lv_aload_n hx hb d_F_write_55 rfl (lv_at hl 0 rfl) ?_
    refine lv_iload_n hx hb d_F_write_56 rfl (lv_at hl 1 rfl) ?_
    refine lv_lload_n hx hb d_F_write_57 rfl (lv_at hl 2 rfl) ?_
    refine lv_iconst (v := (-1 : Int32)) hx hb d_F_write_58 (by decide) ?_
    obtain ⟨⟨st59, pl59, wd59, nx59⟩, hc59, hF⟩ := tx_b hF
    try dsimp only at hF
    have hPc := hP.sub (ws' := (wF cA h0 q1 q2 q3 q4 q5 q6 st pl tk wd er nx md)) [0, 1, 2, 3, 4, 5, 6] rfl
    have hDc := hD.sub (ws' := (wF cA h0 q1 q2 q3 q4 q5 q6 st pl tk wd er nx md)) [0, 1, 2, 3, 4, 5, 6] (by decide) rfl
    have hFc := va_free (wc := (wF cA h0 q1 q2 q3 q4 q5 q6 st pl tk wd er nx md)) hD hS hA [0, 1, 2, 3, 4, 5, 6] rfl
    refine va_callv (va_runV (As := [.int v1, .long v2, .int (-1 : Int32)]) (rest := []) ⟨hx, hb, hml, hown, hts⟩ (c_F_put l dC dI cA h0 q1 q2 q3 q4 q5 q6 H.size st pl tk wd er nx md v1 v2 (-1 : Int32) st59 pl59 wd59 nx59 hc59) (cwV 3 hts (tg_V bq_2_93 bq_2_95 bq_s_16 bq_1_1 bq_2_96) rfl rfl rfl (by decide +kernel) ⟨Nat.le_of_ble_eq_true rfl, Nat.le_of_ble_eq_true rfl⟩) ⟨tx_blW, (va_recv (ci := 1) (q0 := 0) hK hP rfl rfl), tx_preW hPc hDc hK hNw⟩ rfl rfl hl.1 rfl (lv_room (Nat.le_of_ble_eq_true rfl)) d_F_write_59 ⟨Nat.zero_le _, Nat.zero_le _⟩) hS (fun q _ h => hFc q h) hFc (fun _u t H locs ht hvm hw hB hz1 hk1 hS => ?_)
    obtain ⟨hP1, hD1⟩ := hB
    rw [ht] at hP1
    obtain ⟨hP2, hD2⟩ := va_join (wr := []) (w1 := (wF cA h0 q1 q2 q3 q4 q5 q6 st59 pl59 tk wd59 er nx59 md)) hP hD [0, 1, 2, 3, 4, 5, 6] [] rfl rfl (by decide) (by decide) hk1 hFc hP1 hD1
    have hP := hP2.sub (ws' := (wF cA h0 q1 q2 q3 q4 q5 q6 st59 pl59 tk wd59 er nx59 md)) [0, 1, 2, 3, 4, 5, 6] rfl
    have hD := hD2.sub (ws' := (wF cA h0 q1 q2 q3 q4 q5 q6 st59 pl59 tk wd59 er nx59 md)) [0, 1, 2, 3, 4, 5, 6] (by decide) rfl
    cases hF
    exact W.vret hx hb hr (fun t ht hW => ⟨⟨(), rfl, trivial, by rw [ht]; exact hP, hD⟩, hS.F ht⟩) hS.2.2 d_F_write_62
  have LH : ∀ n : Nat, (∀ (H : Heap) (locs : List Loc) (ls : Array Slot) (st : Nat → Int32) (pl : Nat → Int32) (wd : Nat → Int32) (er : Nat → Int32) (nx : Int32) (v1 : Int32) (v2 : Int64) (v4 : Int32), va_P (dC, dI) vwCl (wF cA h0 q1 q2 q3 q4 q5 q6 st pl tk wd er nx md) H → va_D A (wF cA h0 q1 q2 q3 q4 q5 q6 st pl tk wd er nx md) → va_S A s.heap H locs → lv_has ls 6 [(0, .ref h0), (1, .int v1), (2, .long v2), (4, .int v4)] → f_F_write_H n st pl wd er nx v1 v2 v4 = some (st', pl', wd', er', nx') → W p l e (headSpec ws_F_write rm_F_write).room s m args below meth c H locs 0 0 (MQ below (va_Qv (S := Unit) (fun _ => True) (fun _ t => va_P (dC, dI) vwCl (wF cA h0 q1 q2 q3 q4 q5 q6 (st') (pl') tk (wd') (er') (nx') md) t.heap ∧ va_D A (wF cA h0 q1 q2 q3 q4 q5 q6 (st') (pl') tk (wd') (er') (nx') md)) A) args s 0 0 A) (F0 m 7 ls [])) := by
    intro n
    induction n with
    | zero =>
      exact (by intro H locs ls st pl wd er nx v1 v2 v4 hP hD hS hl hF; have hF : (none : Option ((Nat → Int32) × (Nat → Int32) × (Nat → Int32) × (Nat → Int32) × Int32)) = _ := hF; cases hF)
    | succ n ih =>
      have hrec0 := ih
      intro H locs ls st pl wd er nx v1 v2 v4 hP hD hS hl hF
      have hF : (if (16 : Int32) ≤ v4 then (f_F_write_J55 (f_F_write_H n) st pl wd er nx v1 v2) else ((f_F_leavesBlockFree st).bind fun r15 => if r15 = 0 then ((f_F_blockToClean st er).bind fun r22 => if r22 = (-1 : Int32) then (none) else ((f_F_cleanBlock st pl wd er nx r22).bind fun (st46, pl46, wd46, er46, nx46) => f_F_write_H n st46 pl46 wd46 er46 nx46 v1 v2 (v4 + (1 : Int32)))) else (f_F_write_J55 (f_F_write_H n) st pl wd er nx v1 v2))) = some (st', pl', wd', er', nx') := hF
      refine lv_iload hx hb d_F_write_7 (lv_at hl 3 rfl) ?_
      refine lv_bipush (v := (16 : Int32)) hx hb d_F_write_9 (by decide) ?_
      refine lv_icmp_ge hx hb d_F_write_11 (tgt := 55) (by decide) (fun h11 => ?_) (fun h11 => ?_)
      · have hF := tx_t h11 hF
        exact J55 _ hrec0 _ _ _ st pl wd er nx v1 v2 hP hD hS (lv_sub hl [0, 1, 2] rfl) hF
      · have hF := tx_f h11 hF
        refine lv_aload_n hx hb d_F_write_14 rfl (lv_at hl 0 rfl) ?_
        obtain ⟨r15, hc15, hF⟩ := tx_b hF
        refine vp_callSi (W.runV (As := []) (rest := []) ⟨hx, hb, hml, hown, hts⟩ (c_F_leavesBlockFree l dC dI cA h0 q1 q2 q3 q4 q5 q6 st pl tk wd er nx md r15 hc15) (cwV 0 hts (tg_V bq_2_15 bq_2_17 bq_s_5 bq_1_1 bq_2_18) rfl rfl rfl (by decide +kernel) ⟨Nat.le_of_ble_eq_true rfl, Nat.le_of_ble_eq_true rfl⟩) ⟨tx_blR, (va_recv (ci := 1) (q0 := 0) hK hP rfl rfl), tx_preR (hP) hK⟩ rfl rfl hl.1 rfl (lv_room (Nat.le_of_ble_eq_true rfl)) d_F_write_15 ⟨Nat.zero_le _, Nat.zero_le _⟩) (fun zz hz => ?_)
        subst hz
        refine lv_if_ne hx hb d_F_write_18 (tgt := 55) (by decide) (fun h18 => ?_) (fun h18 => ?_)
        · have hF := tx_f h18 hF
          exact J55 _ hrec0 _ _ _ st pl wd er nx v1 v2 hP hD hS (lv_sub hl [0, 1, 2] rfl) hF
        · have hF := tx_t h18 hF
          refine lv_aload_n hx hb d_F_write_21 rfl (lv_at hl 0 rfl) ?_
          obtain ⟨r22, hc22, hF⟩ := tx_b hF
          refine vp_callSi (W.runV (As := []) (rest := []) ⟨hx, hb, hml, hown, hts⟩ (c_F_blockToClean l dC dI cA h0 q1 q2 q3 q4 q5 q6 st pl tk wd er nx md r22 hc22) (cwV 0 hts (tg_V bq_2_37 bq_2_39 bq_s_9 bq_1_1 bq_2_40) rfl rfl rfl (by decide +kernel) ⟨Nat.le_of_ble_eq_true rfl, Nat.le_of_ble_eq_true rfl⟩) ⟨tx_blR, (va_recv (ci := 1) (q0 := 0) hK hP rfl rfl), tx_preR (hP) hK⟩ rfl rfl hl.1 rfl (lv_room (Nat.le_of_ble_eq_true rfl)) d_F_write_22 ⟨Nat.zero_le _, Nat.zero_le _⟩) (fun zz hz => ?_)
          subst hz
          refine lv_istore hx hb d_F_write_25 hl (by decide) rfl (fun ls hl => ?_)
          have hl : lv_has ls 6 [(5, .int r22), (0, .ref h0), (1, .int v1), (2, .long v2), (4, .int v4)] := hl
          refine lv_iload hx hb d_F_write_27 (lv_at hl 0 rfl) ?_
          refine lv_iconst (v := (-1 : Int32)) hx hb d_F_write_29 (by decide) ?_
          refine lv_icmp_ne hx hb d_F_write_30 (tgt := 43) (by decide) (fun h30 => ?_) (fun h30 => ?_)
          · have hF := tx_f h30 hF
            refine lv_aload_n hx hb d_F_write_43 rfl (lv_at hl 1 rfl) ?_
            refine lv_iload hx hb d_F_write_44 (lv_at hl 0 rfl) ?_
            obtain ⟨⟨st46, pl46, wd46, er46, nx46⟩, hc46, hF⟩ := tx_b hF
            try dsimp only at hF
            have hPc := hP.sub (ws' := (wF cA h0 q1 q2 q3 q4 q5 q6 st pl tk wd er nx md)) [0, 1, 2, 3, 4, 5, 6] rfl
            have hDc := hD.sub (ws' := (wF cA h0 q1 q2 q3 q4 q5 q6 st pl tk wd er nx md)) [0, 1, 2, 3, 4, 5, 6] (by decide) rfl
            have hFc := va_free (wc := (wF cA h0 q1 q2 q3 q4 q5 q6 st pl tk wd er nx md)) hD hS hA [0, 1, 2, 3, 4, 5, 6] rfl
            refine va_callv (va_runV (As := [.int r22]) (rest := []) ⟨hx, hb, hml, hown, hts⟩ (c_F_cleanBlock l dC dI cA h0 q1 q2 q3 q4 q5 q6 H.size st pl tk wd er nx md r22 st46 pl46 wd46 er46 nx46 hc46) (cwV 1 hts (tg_V bq_2_73 bq_2_75 bq_s_13 bq_1_1 bq_2_76) rfl rfl rfl (by decide +kernel) ⟨Nat.le_of_ble_eq_true rfl, Nat.le_of_ble_eq_true rfl⟩) ⟨tx_blW, (va_recv (ci := 1) (q0 := 0) hK hP rfl rfl), tx_preW hPc hDc hK hNw⟩ rfl rfl hl.1 rfl (lv_room (Nat.le_of_ble_eq_true rfl)) d_F_write_46 ⟨Nat.zero_le _, Nat.zero_le _⟩) hS (fun q _ h => hFc q h) hFc (fun _u t H locs ht hvm hw hB hz1 hk1 hS => ?_)
            obtain ⟨hP1, hD1⟩ := hB
            rw [ht] at hP1
            obtain ⟨hP2, hD2⟩ := va_join (wr := []) (w1 := (wF cA h0 q1 q2 q3 q4 q5 q6 st46 pl46 tk wd46 er46 nx46 md)) hP hD [0, 1, 2, 3, 4, 5, 6] [] rfl rfl (by decide) (by decide) hk1 hFc hP1 hD1
            have hP := hP2.sub (ws' := (wF cA h0 q1 q2 q3 q4 q5 q6 st46 pl46 tk wd46 er46 nx46 md)) [0, 1, 2, 3, 4, 5, 6] rfl
            have hD := hD2.sub (ws' := (wF cA h0 q1 q2 q3 q4 q5 q6 st46 pl46 tk wd46 er46 nx46 md)) [0, 1, 2, 3, 4, 5, 6] (by decide) rfl
            refine lv_iinc (k := 4) (v := (v4 + (1 : Int32))) hx hb d_F_write_49 hl rfl rfl (by decide) rfl (fun ls hl => ?_)
            have hl : lv_has ls 6 [(4, .int (v4 + (1 : Int32))), (5, .int r22), (0, .ref h0), (1, .int v1), (2, .long v2)] := hl
            refine lv_goto hx hb d_F_write_52 (tgt := 7) (by decide) ?_
            exact hrec0 _ _ _ st46 pl46 wd46 er46 nx46 v1 v2 (v4 + (1 : Int32)) hP hD hS (lv_sub hl [2, 3, 4, 0] rfl) hF
          · have hF := tx_t h30 hF
            cases hF
  obtain hrec0 := LH 100
  have hF : ((f_F_requireLogicalPage a1).bind fun _ => f_F_write_H 100 st pl wd er nx a1 a2 (0 : Int32)) = some (st', pl', wd', er', nx') := hF
  refine lv_iload_n hx hb d_F_write_0 rfl (lv_at hl 1 rfl) ?_
  obtain ⟨_u, hc1, hF⟩ := tx_b hF
  refine va_csv (W.runS (As := [.int a1]) (rest := []) ⟨hx, hb, hml, hown, hts⟩ (c_F_requireLogicalPage l a1 _u hc1) (va_cwS 1 hts (tg_S bq_2_11 bq_2_12 bq_1_1 bq_2_13) rfl rfl rfl (by decide +kernel) ⟨Nat.le_of_ble_eq_true rfl, Nat.le_of_ble_eq_true rfl⟩) ⟨tx_bl0, tx_pre0⟩ rfl rfl hl.1 rfl (lv_room (Nat.le_of_ble_eq_true rfl)) d_F_write_1 ⟨Nat.zero_le _, Nat.zero_le _⟩) (fun _ => ?_)
  refine lv_iconst (v := (0 : Int32)) hx hb d_F_write_4 (by decide) ?_
  refine lv_istore hx hb d_F_write_5 hl (by decide) rfl (fun ls hl => ?_)
  have hl : lv_has ls 6 [(4, .int (0 : Int32)), (0, .ref h0), (1, .int a1), (2, .long a2)] := hl
  exact hrec0 _ _ _ st pl wd er nx a1 a2 (0 : Int32) hP hD hS (lv_sub hl [1, 2, 3, 0] rfl) hF
abbrev rm_F_read : Room := { frames := 4, cells := 0, slots := 0, locals := 94 }
set_option maxHeartbeats 4000000 in
set_option maxRecDepth 100000 in
theorem c_F_read (l : Launch) (dC : Nat → ClassId) (dI : Nat → Nat → Nat) (cA : ClassId) (h0 q1 q2 q3 q4 q5 q6 : Nat) (st pl tk wd er : Nat → Int32) (nx md : Int32) (a1 : Int32) (r : Int64)  (hF : f_F_read pl wd a1 = some r) : Met l y_F_read ws_F_read rm_F_read (tx_PR [.ref h0, .int a1] (dC, dI) [(cA, .int)] (wF cA h0 q1 q2 q3 q4 q5 q6 st pl tk wd er nx md)) (vp_Sl (fun z => r = z)) 0 0 (fun _ => False) := by
  refine Met.ofW (cc := b_F_read) (maxL := 3) (ret := some .long) (by decide +kernel) rfl ?_
  intro p e s m args below meth c s₁ B hml hv
  obtain ⟨hargs, hP, hK⟩ := hv
  have hx := B.exec
  have hb := B.bytes
  have hr := B.returns
  have hts := atoms_spec (ws := ws_F_read) B.pre
  have hown : s.vm.findClass "FlashStore" = some m.cls := findClass_of_methodNamed B.named
  have hlocks := B.notSynchronized
  have w0 := (hts _ (List.mem_cons_of_mem _ bq_1_43))
  have w1 := (hts _ (List.mem_cons_of_mem _ bq_1_41))
  have hl := lv_entry ([.ref h0, .int a1]) (n := 3) (Nat.le_of_ble_eq_true rfl)
  have hen : entryFrame m args 3 = _ := (congrArg (fun z => entryFrame m z 3) hargs).trans (lg_entry_eq m ([.ref h0, .int a1]) 3)
  refine W.eq hen ?_
  clear hen
  generalize (lg_sl ([.ref h0, .int a1]) ++ List.replicate (3 - (lg_sl ([.ref h0, .int a1])).length) Slot.unset).toArray = ls at hl ⊢
  have hl : lv_has ls 3 [(0, .ref h0), (1, .int a1)] := hl
  have hF : ((f_F_requireLogicalPage a1).bind fun _ => if a1 < 0 ∨ 8 ≤ a1.toNatClampNeg then none else if (pl a1.toNatClampNeg) = (-1 : Int32) then (none) else ((f_M_isReadable wd (pl a1.toNatClampNeg)).bind fun r31 => if r31 = 0 then (none) else ((f_M_contentAt wd (pl a1.toNatClampNeg)).bind fun r52 => some r52))) = some r := hF
  refine lv_iload_n hx hb d_F_read_0 rfl (lv_at hl 1 rfl) ?_
  obtain ⟨_u, hc1, hF⟩ := tx_b hF
  refine va_csv (W.runS (As := [.int a1]) (rest := []) ⟨hx, hb, hml, hown, hts⟩ (c_F_requireLogicalPage l a1 _u hc1) (va_cwS 1 hts (tg_S bq_2_11 bq_2_12 bq_1_1 bq_2_13) rfl rfl rfl (by decide +kernel) ⟨Nat.le_of_ble_eq_true rfl, Nat.le_of_ble_eq_true rfl⟩) ⟨tx_bl0, tx_pre0⟩ rfl rfl hl.1 rfl (lv_room (Nat.le_of_ble_eq_true rfl)) d_F_read_1 ⟨Nat.zero_le _, Nat.zero_le _⟩) (fun _ => ?_)
  refine lv_aload_n hx hb d_F_read_4 rfl (lv_at hl 0 rfl) ?_
  refine va_get (D := (dC, dI)) (ci := 1) (v := .ref q3) (C := "FlashStore") (T := TF) (N := 6) hx hb hts inTF hown hK hP 0 rfl rfl 2 (by decide) w0 (fun _ h9 => h9) rfl d_F_read_5 ?_
  refine lv_iload_n hx hb d_F_read_8 rfl (lv_at hl 1 rfl) ?_
  obtain ⟨hi9, hF⟩ := tx_g hF
  refine va_iald hx hb hK hP 3 0 rfl rfl hi9 d_F_read_9 ?_
  refine lv_istore_n hx hb d_F_read_10 rfl hl (by decide) rfl (fun ls hl => ?_)
  have hl : lv_has ls 3 [(2, .int (pl a1.toNatClampNeg)), (0, .ref h0), (1, .int a1)] := hl
  refine lv_iload_n hx hb d_F_read_11 rfl (lv_at hl 0 rfl) ?_
  refine lv_iconst (v := (-1 : Int32)) hx hb d_F_read_12 (by decide) ?_
  refine lv_icmp_ne hx hb d_F_read_13 (tgt := 26) (by decide) (fun h13 => ?_) (fun h13 => ?_)
  · have hF := tx_f h13 hF
    refine lv_aload_n hx hb d_F_read_26 rfl (lv_at hl 1 rfl) ?_
    refine va_get (D := (dC, dI)) (ci := 1) (v := .ref q1) (C := "FlashStore") (T := TF) (N := 6) hx hb hts inTF hown hK hP 0 rfl rfl 0 (by decide) w1 (fun _ h9 => h9) rfl d_F_read_27 ?_
    refine lv_iload_n hx hb d_F_read_30 rfl (lv_at hl 0 rfl) ?_
    obtain ⟨r31, hc31, hF⟩ := tx_b hF
    refine vp_callSi (W.runV (As := [.int (pl a1.toNatClampNeg)]) (rest := []) ⟨hx, hb, hml, hown, hts⟩ (c_M_isReadable l dC dI cA q1 q5 q6 wd er (pl a1.toNatClampNeg) r31 hc31) (cwV 1 hts (tg_V bq_2_85 bq_2_86 bq_2_87 bq_1_2 bq_2_88) rfl rfl rfl (by decide +kernel) ⟨Nat.le_of_ble_eq_true rfl, Nat.le_of_ble_eq_true rfl⟩) ⟨tx_blR, (va_recv (ci := 0) (q0 := 1) hK hP rfl rfl), tx_preR (hP.sub (ws' := (wM cA q1 q5 q6 wd er)) [1, 5, 6] rfl) hK⟩ rfl rfl hl.1 rfl (lv_room (Nat.le_of_ble_eq_true rfl)) d_F_read_31 ⟨Nat.zero_le _, Nat.zero_le _⟩) (fun zz hz => ?_)
    subst hz
    refine lv_if_ne hx hb d_F_read_34 (tgt := 47) (by decide) (fun h34 => ?_) (fun h34 => ?_)
    · have hF := tx_f h34 hF
      refine lv_aload_n hx hb d_F_read_47 rfl (lv_at hl 1 rfl) ?_
      refine va_get (D := (dC, dI)) (ci := 1) (v := .ref q1) (C := "FlashStore") (T := TF) (N := 6) hx hb hts inTF hown hK hP 0 rfl rfl 0 (by decide) w1 (fun _ h9 => h9) rfl d_F_read_48 ?_
      refine lv_iload_n hx hb d_F_read_51 rfl (lv_at hl 0 rfl) ?_
      obtain ⟨r52, hc52, hF⟩ := tx_b hF
      refine vp_callSl (W.runV (As := [.int (pl a1.toNatClampNeg)]) (rest := []) ⟨hx, hb, hml, hown, hts⟩ (c_M_contentAt l dC dI cA q1 q5 q6 wd er (pl a1.toNatClampNeg) r52 hc52) (cwV 1 hts (tg_V bq_2_89 bq_2_90 bq_2_91 bq_1_2 bq_2_92) rfl rfl rfl (by decide +kernel) ⟨Nat.le_of_ble_eq_true rfl, Nat.le_of_ble_eq_true rfl⟩) ⟨tx_blR, (va_recv (ci := 0) (q0 := 1) hK hP rfl rfl), tx_preR (hP.sub (ws' := (wM cA q1 q5 q6 wd er)) [1, 5, 6] rfl) hK⟩ rfl rfl hl.1 rfl (lv_room (Nat.le_of_ble_eq_true rfl)) d_F_read_52 ⟨Nat.zero_le _, Nat.zero_le _⟩) (fun zz hz => ?_)
      subst hz
      exact W.lret hx hb hr (fun t ht hW => ⟨_, rfl, (Option.some.inj hF).symm, ht⟩) (fun q h => by cases h) d_F_read_55
    · have hF := tx_t h34 hF
      cases hF
  · have hF := tx_t h13 hF
    cases hF
abbrev rm_F_trim : Room := { frames := 1, cells := 0, slots := 0, locals := 21 }
set_option maxHeartbeats 4000000 in
set_option maxRecDepth 100000 in
theorem c_F_trim (l : Launch) (dC : Nat → ClassId) (dI : Nat → Nat → Nat) (cA : ClassId) (h0 q1 q2 q3 q4 q5 q6 sz : Nat) (st pl tk wd er : Nat → Int32) (nx md : Int32) (a1 : Int32) (r : Int32) (st' : Nat → Int32) (pl' : Nat → Int32) (hF : f_F_trim st pl a1 = some (r, st', pl')) : Met l y_F_trim ws_F_trim rm_F_trim (tx_PW [.ref h0, .int a1] (dC, dI) [(cA, .int)] (wF cA h0 q1 q2 q3 q4 q5 q6 st pl tk wd er nx md) sz) (va_Qi (S := Unit) (fun z _ => r = z) (fun _ t => va_P (dC, dI) vwCl (wF cA h0 q1 q2 q3 q4 q5 q6 (st') (pl') tk wd er nx md) t.heap ∧ va_D (va_A (wF cA h0 q1 q2 q3 q4 q5 q6 st pl tk wd er nx md) sz) (wF cA h0 q1 q2 q3 q4 q5 q6 (st') (pl') tk wd er nx md)) (va_A (wF cA h0 q1 q2 q3 q4 q5 q6 st pl tk wd er nx md) sz)) 0 0 (va_A (wF cA h0 q1 q2 q3 q4 q5 q6 st pl tk wd er nx md) sz) := by
  refine Met.ofW (cc := b_F_trim) (maxL := 3) (ret := some .boolean) (by decide +kernel) rfl ?_
  intro p e s m args below meth c s₁ B hml hv
  obtain ⟨hargs, hsz, hP, hK, hD0, hNw⟩ := hv
  have hx := B.exec
  have hb := B.bytes
  have hr := B.returns
  have hts := atoms_spec (ws := ws_F_trim) B.pre
  have hown : s.vm.findClass "FlashStore" = some m.cls := findClass_of_methodNamed B.named
  have hlocks := B.notSynchronized
  subst hsz
  have hD := hD0.self (sz := s.heap.size)
  generalize hAe : va_A (wF cA h0 q1 q2 q3 q4 q5 q6 st pl tk wd er nx md) s.heap.size = A at hD ⊢
  have hA : ∀ q : Nat, s.heap.size ≤ q → A q := fun q h => by rw [← hAe]; exact Or.inr h
  have hS : va_S A s.heap s.heap [] := va_S.rf
  have hP : va_P (dC, dI) vwCl (wF cA h0 q1 q2 q3 q4 q5 q6 st pl tk wd er nx md) s.heap := hP
  have w0 := (hts _ (List.mem_cons_of_mem _ bq_1_43))
  have hl := lv_entry ([.ref h0, .int a1]) (n := 3) (Nat.le_of_ble_eq_true rfl)
  have hen : entryFrame m args 3 = _ := (congrArg (fun z => entryFrame m z 3) hargs).trans (lg_entry_eq m ([.ref h0, .int a1]) 3)
  refine W.eq hen ?_
  clear hen
  generalize (lg_sl ([.ref h0, .int a1]) ++ List.replicate (3 - (lg_sl ([.ref h0, .int a1])).length) Slot.unset).toArray = ls at hl ⊢
  have hl : lv_has ls 3 [(0, .ref h0), (1, .int a1)] := hl
  have J19 : ∀ (H : Heap) (locs : List Loc) (ls : Array Slot) (st : Nat → Int32) (pl : Nat → Int32) (v1 : Int32) (z0 : Int32), va_P (dC, dI) vwCl (wF cA h0 q1 q2 q3 q4 q5 q6 st pl tk wd er nx md) H → va_D A (wF cA h0 q1 q2 q3 q4 q5 q6 st pl tk wd er nx md) → va_S A s.heap H locs → lv_has ls 3 [(0, .ref h0), (1, .int v1)] → f_F_trim_J19 st pl v1 z0 = some (r, st', pl') → W p l e (headSpec ws_F_trim rm_F_trim).room s m args below meth c H locs 0 0 (MQ below (va_Qi (S := Unit) (fun z _ => r = z) (fun _ t => va_P (dC, dI) vwCl (wF cA h0 q1 q2 q3 q4 q5 q6 (st') (pl') tk wd er nx md) t.heap ∧ va_D A (wF cA h0 q1 q2 q3 q4 q5 q6 (st') (pl') tk wd er nx md)) A) args s 0 0 A) (F0 m 19 ls [.int z0]) := by
    intro H locs ls st pl v1 z0 hP hD hS hl hF
    have hF : ((f_F_forget st pl v1).bind fun (st22, pl22) => if ¬ (z0 = 0 ∨ z0 = 1) then none else some (z0, st22, pl22)) = some (r, st', pl') := hF
    refine lv_istore_n hx hb d_F_trim_19 rfl hl (by decide) rfl (fun ls hl => ?_)
    have hl : lv_has ls 3 [(2, .int z0), (0, .ref h0), (1, .int v1)] := hl
    refine lv_aload_n hx hb d_F_trim_20 rfl (lv_at hl 1 rfl) ?_
    refine lv_iload_n hx hb d_F_trim_21 rfl (lv_at hl 2 rfl) ?_
    obtain ⟨⟨st22, pl22⟩, hc22, hF⟩ := tx_b hF
    try dsimp only at hF
    have hPc := hP.sub (ws' := (wF cA h0 q1 q2 q3 q4 q5 q6 st pl tk wd er nx md)) [0, 1, 2, 3, 4, 5, 6] rfl
    have hDc := hD.sub (ws' := (wF cA h0 q1 q2 q3 q4 q5 q6 st pl tk wd er nx md)) [0, 1, 2, 3, 4, 5, 6] (by decide) rfl
    have hFc := va_free (wc := (wF cA h0 q1 q2 q3 q4 q5 q6 st pl tk wd er nx md)) hD hS hA [0, 1, 2, 3, 4, 5, 6] rfl
    refine va_callv (va_runV (As := [.int v1]) (rest := []) ⟨hx, hb, hml, hown, hts⟩ (c_F_forget l dC dI cA h0 q1 q2 q3 q4 q5 q6 H.size st pl tk wd er nx md v1 st22 pl22 hc22) (cwV 1 hts (tg_V bq_1_117 bq_1_119 bq_s_1 bq_1_1 bq_1_120) rfl rfl rfl (by decide +kernel) ⟨Nat.le_of_ble_eq_true rfl, Nat.le_of_ble_eq_true rfl⟩) ⟨tx_blW, (va_recv (ci := 1) (q0 := 0) hK hP rfl rfl), tx_preW hPc hDc hK hNw⟩ rfl rfl hl.1 rfl (lv_room (Nat.le_of_ble_eq_true rfl)) d_F_trim_22 ⟨Nat.zero_le _, Nat.zero_le _⟩) hS (fun q _ h => hFc q h) hFc (fun _u t H locs ht hvm hw hB hz1 hk1 hS => ?_)
    obtain ⟨hP1, hD1⟩ := hB
    rw [ht] at hP1
    obtain ⟨hP2, hD2⟩ := va_join (wr := []) (w1 := (wF cA h0 q1 q2 q3 q4 q5 q6 st22 pl22 tk wd er nx md)) hP hD [0, 1, 2, 3, 4, 5, 6] [] rfl rfl (by decide) (by decide) hk1 hFc hP1 hD1
    have hP := hP2.sub (ws' := (wF cA h0 q1 q2 q3 q4 q5 q6 st22 pl22 tk wd er nx md)) [0, 1, 2, 3, 4, 5, 6] rfl
    have hD := hD2.sub (ws' := (wF cA h0 q1 q2 q3 q4 q5 q6 st22 pl22 tk wd er nx md)) [0, 1, 2, 3, 4, 5, 6] (by decide) rfl
    refine lv_iload_n hx hb d_F_trim_25 rfl (lv_at hl 0 rfl) ?_
    obtain ⟨hz, hF⟩ := tx_g hF
    have hz := Classical.not_not.mp hz
    cases hF
    exact W.zret hx hb hr (tx_z hz) (fun t ht hW => ⟨⟨_, (), rfl, rfl, by rw [ht]; exact hP, hD⟩, hS.F ht⟩) hS.2.2 d_F_trim_26
  have hF : ((f_F_requireLogicalPage a1).bind fun _ => if a1 < 0 ∨ 8 ≤ a1.toNatClampNeg then none else if (pl a1.toNatClampNeg) = (-1 : Int32) then (f_F_trim_J19 st pl a1 (0 : Int32)) else (f_F_trim_J19 st pl a1 (1 : Int32))) = some (r, st', pl') := hF
  refine lv_iload_n hx hb d_F_trim_0 rfl (lv_at hl 1 rfl) ?_
  obtain ⟨_u, hc1, hF⟩ := tx_b hF
  refine va_csv (W.runS (As := [.int a1]) (rest := []) ⟨hx, hb, hml, hown, hts⟩ (c_F_requireLogicalPage l a1 _u hc1) (va_cwS 1 hts (tg_S bq_2_11 bq_2_12 bq_1_1 bq_2_13) rfl rfl rfl (by decide +kernel) ⟨Nat.le_of_ble_eq_true rfl, Nat.le_of_ble_eq_true rfl⟩) ⟨tx_bl0, tx_pre0⟩ rfl rfl hl.1 rfl (lv_room (Nat.le_of_ble_eq_true rfl)) d_F_trim_1 ⟨Nat.zero_le _, Nat.zero_le _⟩) (fun _ => ?_)
  refine lv_aload_n hx hb d_F_trim_4 rfl (lv_at hl 0 rfl) ?_
  refine va_get (D := (dC, dI)) (ci := 1) (v := .ref q3) (C := "FlashStore") (T := TF) (N := 6) hx hb hts inTF hown hK hP 0 rfl rfl 2 (by decide) w0 (fun _ h9 => h9) rfl d_F_trim_5 ?_
  refine lv_iload_n hx hb d_F_trim_8 rfl (lv_at hl 1 rfl) ?_
  obtain ⟨hi9, hF⟩ := tx_g hF
  refine va_iald hx hb hK hP 3 0 rfl rfl hi9 d_F_trim_9 ?_
  refine lv_iconst (v := (-1 : Int32)) hx hb d_F_trim_10 (by decide) ?_
  refine lv_icmp_eq hx hb d_F_trim_11 (tgt := 18) (by decide) (fun h11 => ?_) (fun h11 => ?_)
  · have hF := tx_t h11 hF
    refine lv_iconst (v := (0 : Int32)) hx hb d_F_trim_18 (by decide) ?_
    exact J19 _ _ _ st pl a1 (0 : Int32) hP hD hS hl hF
  · have hF := tx_f h11 hF
    refine lv_iconst (v := (1 : Int32)) hx hb d_F_trim_14 (by decide) ?_
    refine lv_goto hx hb d_F_trim_15 (tgt := 19) (by decide) ?_
    exact J19 _ _ _ st pl a1 (1 : Int32) hP hD hS hl hF
abbrev rm_F_spoil : Room := { frames := 2, cells := 0, slots := 0, locals := 42 }
set_option maxHeartbeats 4000000 in
set_option maxRecDepth 100000 in
theorem c_F_spoil (l : Launch) (dC : Nat → ClassId) (dI : Nat → Nat → Nat) (cA : ClassId) (h0 q1 q2 q3 q4 q5 q6 sz : Nat) (st pl tk wd er : Nat → Int32) (nx md : Int32) (a1 : Int32) (a2 : Int32) (a3 : Int32) (a4 : Int32) (wd' : Nat → Int32) (hF : f_F_spoil wd a1 a2 a3 a4 = some wd') : Met l y_F_spoil ws_F_spoil rm_F_spoil (tx_PW [.ref h0, .int a1, .int a2, .int a3, .int a4] (dC, dI) [(cA, .int)] (wF cA h0 q1 q2 q3 q4 q5 q6 st pl tk wd er nx md) sz) (va_Qv (S := Unit) (fun _ => True) (fun _ t => va_P (dC, dI) vwCl (wF cA h0 q1 q2 q3 q4 q5 q6 st pl tk (wd') er nx md) t.heap ∧ va_D (va_A (wF cA h0 q1 q2 q3 q4 q5 q6 st pl tk wd er nx md) sz) (wF cA h0 q1 q2 q3 q4 q5 q6 st pl tk (wd') er nx md)) (va_A (wF cA h0 q1 q2 q3 q4 q5 q6 st pl tk wd er nx md) sz)) 0 0 (va_A (wF cA h0 q1 q2 q3 q4 q5 q6 st pl tk wd er nx md) sz) := by
  refine Met.ofW (cc := b_F_spoil) (maxL := 5) (ret := none) (by decide +kernel) rfl ?_
  intro p e s m args below meth c s₁ B hml hv
  obtain ⟨hargs, hsz, hP, hK, hD0, hNw⟩ := hv
  have hx := B.exec
  have hb := B.bytes
  have hr := B.returns
  have hts := atoms_spec (ws := ws_F_spoil) B.pre
  have hown : s.vm.findClass "FlashStore" = some m.cls := findClass_of_methodNamed B.named
  have hlocks := B.notSynchronized
  subst hsz
  have hD := hD0.self (sz := s.heap.size)
  generalize hAe : va_A (wF cA h0 q1 q2 q3 q4 q5 q6 st pl tk wd er nx md) s.heap.size = A at hD ⊢
  have hA : ∀ q : Nat, s.heap.size ≤ q → A q := fun q h => by rw [← hAe]; exact Or.inr h
  have hS : va_S A s.heap s.heap [] := va_S.rf
  have hP : va_P (dC, dI) vwCl (wF cA h0 q1 q2 q3 q4 q5 q6 st pl tk wd er nx md) s.heap := hP
  have w0 := (hts _ (List.mem_cons_of_mem _ bq_1_41))
  have hl := lv_entry ([.ref h0, .int a1, .int a2, .int a3, .int a4]) (n := 5) (Nat.le_of_ble_eq_true rfl)
  have hen : entryFrame m args 5 = _ := (congrArg (fun z => entryFrame m z 5) hargs).trans (lg_entry_eq m ([.ref h0, .int a1, .int a2, .int a3, .int a4]) 5)
  refine W.eq hen ?_
  clear hen
  generalize (lg_sl ([.ref h0, .int a1, .int a2, .int a3, .int a4]) ++ List.replicate (5 - (lg_sl ([.ref h0, .int a1, .int a2, .int a3, .int a4])).length) Slot.unset).toArray = ls at hl ⊢
  have hl : lv_has ls 5 [(0, .ref h0), (1, .int a1), (2, .int a2), (3, .int a3), (4, .int a4)] := hl
  have hF : ((f_F_requireWord a1 a2 a3).bind fun _ => if 0 ≤ a4 then ((f_F_placeOf a1 a2).bind fun r27 => (f_M_turnOver wd r27 a3 a4).bind fun wd33 => some wd33) else (none)) = some wd' := hF
  refine lv_iload_n hx hb d_F_spoil_0 rfl (lv_at hl 1 rfl) ?_
  refine lv_iload_n hx hb d_F_spoil_1 rfl (lv_at hl 2 rfl) ?_
  refine lv_iload_n hx hb d_F_spoil_2 rfl (lv_at hl 3 rfl) ?_
  obtain ⟨_u, hc3, hF⟩ := tx_b hF
  refine va_csv (W.runS (As := [.int a1, .int a2, .int a3]) (rest := []) ⟨hx, hb, hml, hown, hts⟩ (c_F_requireWord l a1 a2 a3 _u hc3) (va_cwS 3 hts (tg_S bq_2_131 bq_2_132 bq_1_1 bq_2_133) rfl rfl rfl (by decide +kernel) ⟨Nat.le_of_ble_eq_true rfl, Nat.le_of_ble_eq_true rfl⟩) ⟨tx_bl0, tx_pre0⟩ rfl rfl hl.1 rfl (lv_room (Nat.le_of_ble_eq_true rfl)) d_F_spoil_3 ⟨Nat.zero_le _, Nat.zero_le _⟩) (fun _ => ?_)
  refine lv_iload hx hb d_F_spoil_6 (lv_at hl 4 rfl) ?_
  refine lv_if_ge hx hb d_F_spoil_8 (tgt := 21) (by decide) (fun h8 => ?_) (fun h8 => ?_)
  · have hF := tx_t h8 hF
    refine lv_aload_n hx hb d_F_spoil_21 rfl (lv_at hl 0 rfl) ?_
    refine va_get (D := (dC, dI)) (ci := 1) (v := .ref q1) (C := "FlashStore") (T := TF) (N := 6) hx hb hts inTF hown hK hP 0 rfl rfl 0 (by decide) w0 (fun _ h9 => h9) rfl d_F_spoil_22 ?_
    refine lv_iload_n hx hb d_F_spoil_25 rfl (lv_at hl 1 rfl) ?_
    refine lv_iload_n hx hb d_F_spoil_26 rfl (lv_at hl 2 rfl) ?_
    obtain ⟨r27, hc27, hF⟩ := tx_b hF
    refine vp_callSi (W.runS (As := [.int a1, .int a2]) (rest := [.ref q1]) ⟨hx, hb, hml, hown, hts⟩ (c_F_placeOf l a1 a2 r27 hc27) (va_cwS 2 hts (tg_S bq_2_34 bq_2_35 bq_1_1 bq_2_36) rfl rfl rfl (by decide +kernel) ⟨Nat.le_of_ble_eq_true rfl, Nat.le_of_ble_eq_true rfl⟩) ⟨tx_bl0, tx_pre0⟩ rfl rfl hl.1 rfl (lv_room (Nat.le_of_ble_eq_true rfl)) d_F_spoil_27 ⟨Nat.zero_le _, Nat.zero_le _⟩) (fun zz hz => ?_)
    subst hz
    refine lv_iload_n hx hb d_F_spoil_30 rfl (lv_at hl 3 rfl) ?_
    refine lv_iload hx hb d_F_spoil_31 (lv_at hl 4 rfl) ?_
    obtain ⟨wd33, hc33, hF⟩ := tx_b hF
    have hPc := hP.sub (ws' := (wM cA q1 q5 q6 wd er)) [1, 5, 6] rfl
    have hDc := hD.sub (ws' := (wM cA q1 q5 q6 wd er)) [1, 5, 6] (by decide) rfl
    have hFc := va_free (wc := (wM cA q1 q5 q6 wd er)) hD hS hA [1, 5, 6] rfl
    refine va_callv (va_runV (As := [.int r27, .int a3, .int a4]) (rest := []) ⟨hx, hb, hml, hown, hts⟩ (c_M_turnOver l dC dI cA q1 q5 q6 s.heap.size wd er r27 a3 a4 wd33 hc33) (cwV 3 hts (tg_V bq_2_143 bq_2_144 bq_2_145 bq_1_2 bq_2_146) rfl rfl rfl (by decide +kernel) ⟨Nat.le_of_ble_eq_true rfl, Nat.le_of_ble_eq_true rfl⟩) ⟨tx_blW, (va_recv (ci := 0) (q0 := 1) hK hP rfl rfl), tx_preW hPc hDc hK hNw⟩ rfl rfl hl.1 rfl (lv_room (Nat.le_of_ble_eq_true rfl)) d_F_spoil_33 ⟨Nat.zero_le _, Nat.zero_le _⟩) hS (fun q _ h => hFc q h) hFc (fun _u t H locs ht hvm hw hB hz1 hk1 hS => ?_)
    obtain ⟨hP1, hD1⟩ := hB
    rw [ht] at hP1
    obtain ⟨hP2, hD2⟩ := va_join (wr := [(h0, .inr (1, [.ref q1, .ref q2, .ref q3, .ref q4, .int nx, .int md])), (q2, .inl (cA, 16, .inl st)), (q3, .inl (cA, 8, .inl pl)), (q4, .inl (cA, 8, .inl tk))]) (w1 := (wM cA q1 q5 q6 wd33 er)) hP hD [1, 5, 6] [0, 2, 3, 4] rfl rfl (by decide) (by decide) hk1 hFc hP1 hD1
    have hP := hP2.sub (ws' := (wF cA h0 q1 q2 q3 q4 q5 q6 st pl tk wd33 er nx md)) [0, 4, 1, 2, 3, 5, 6] rfl
    have hD := hD2.sub (ws' := (wF cA h0 q1 q2 q3 q4 q5 q6 st pl tk wd33 er nx md)) [0, 4, 1, 2, 3, 5, 6] (by decide) rfl
    cases hF
    exact W.vret hx hb hr (fun t ht hW => ⟨⟨(), rfl, trivial, by rw [ht]; exact hP, hD⟩, hS.F ht⟩) hS.2.2 d_F_spoil_36
  · have hF := tx_f h8 hF
    cases hF
abbrev rm_F_flash : Room := { frames := 2, cells := 0, slots := 0, locals := 42 }
set_option maxHeartbeats 4000000 in
set_option maxRecDepth 100000 in
theorem c_F_flash (l : Launch) (dC : Nat → ClassId) (dI : Nat → Nat → Nat) (cA : ClassId) (h0 q1 q2 q3 q4 q5 q6 : Nat) (st pl tk wd er : Nat → Int32) (nx md : Int32) (a1 : Int32) (a2 : Int32) (a3 : Int32) (r : Int32)  (hF : f_F_flash wd a1 a2 a3 = some r) : Met l y_F_flash ws_F_flash rm_F_flash (tx_PR [.ref h0, .int a1, .int a2, .int a3] (dC, dI) [(cA, .int)] (wF cA h0 q1 q2 q3 q4 q5 q6 st pl tk wd er nx md)) (vp_Si (fun z => r = z)) 0 0 (fun _ => False) := by
  refine Met.ofW (cc := b_F_flash) (maxL := 4) (ret := some .int) (by decide +kernel) rfl ?_
  intro p e s m args below meth c s₁ B hml hv
  obtain ⟨hargs, hP, hK⟩ := hv
  have hx := B.exec
  have hb := B.bytes
  have hr := B.returns
  have hts := atoms_spec (ws := ws_F_flash) B.pre
  have hown : s.vm.findClass "FlashStore" = some m.cls := findClass_of_methodNamed B.named
  have hlocks := B.notSynchronized
  have w0 := (hts _ (List.mem_cons_of_mem _ bq_1_41))
  have hl := lv_entry ([.ref h0, .int a1, .int a2, .int a3]) (n := 4) (Nat.le_of_ble_eq_true rfl)
  have hen : entryFrame m args 4 = _ := (congrArg (fun z => entryFrame m z 4) hargs).trans (lg_entry_eq m ([.ref h0, .int a1, .int a2, .int a3]) 4)
  refine W.eq hen ?_
  clear hen
  generalize (lg_sl ([.ref h0, .int a1, .int a2, .int a3]) ++ List.replicate (4 - (lg_sl ([.ref h0, .int a1, .int a2, .int a3])).length) Slot.unset).toArray = ls at hl ⊢
  have hl : lv_has ls 4 [(0, .ref h0), (1, .int a1), (2, .int a2), (3, .int a3)] := hl
  have hF : ((f_F_requireWord a1 a2 a3).bind fun _ => (f_F_placeOf a1 a2).bind fun r12 => (f_M_wordAt wd r12 a3).bind fun r16 => some r16) = some r := hF
  refine lv_iload_n hx hb d_F_flash_0 rfl (lv_at hl 1 rfl) ?_
  refine lv_iload_n hx hb d_F_flash_1 rfl (lv_at hl 2 rfl) ?_
  refine lv_iload_n hx hb d_F_flash_2 rfl (lv_at hl 3 rfl) ?_
  obtain ⟨_u, hc3, hF⟩ := tx_b hF
  refine va_csv (W.runS (As := [.int a1, .int a2, .int a3]) (rest := []) ⟨hx, hb, hml, hown, hts⟩ (c_F_requireWord l a1 a2 a3 _u hc3) (va_cwS 3 hts (tg_S bq_2_131 bq_2_132 bq_1_1 bq_2_133) rfl rfl rfl (by decide +kernel) ⟨Nat.le_of_ble_eq_true rfl, Nat.le_of_ble_eq_true rfl⟩) ⟨tx_bl0, tx_pre0⟩ rfl rfl hl.1 rfl (lv_room (Nat.le_of_ble_eq_true rfl)) d_F_flash_3 ⟨Nat.zero_le _, Nat.zero_le _⟩) (fun _ => ?_)
  refine lv_aload_n hx hb d_F_flash_6 rfl (lv_at hl 0 rfl) ?_
  refine va_get (D := (dC, dI)) (ci := 1) (v := .ref q1) (C := "FlashStore") (T := TF) (N := 6) hx hb hts inTF hown hK hP 0 rfl rfl 0 (by decide) w0 (fun _ h9 => h9) rfl d_F_flash_7 ?_
  refine lv_iload_n hx hb d_F_flash_10 rfl (lv_at hl 1 rfl) ?_
  refine lv_iload_n hx hb d_F_flash_11 rfl (lv_at hl 2 rfl) ?_
  obtain ⟨r12, hc12, hF⟩ := tx_b hF
  refine vp_callSi (W.runS (As := [.int a1, .int a2]) (rest := [.ref q1]) ⟨hx, hb, hml, hown, hts⟩ (c_F_placeOf l a1 a2 r12 hc12) (va_cwS 2 hts (tg_S bq_2_34 bq_2_35 bq_1_1 bq_2_36) rfl rfl rfl (by decide +kernel) ⟨Nat.le_of_ble_eq_true rfl, Nat.le_of_ble_eq_true rfl⟩) ⟨tx_bl0, tx_pre0⟩ rfl rfl hl.1 rfl (lv_room (Nat.le_of_ble_eq_true rfl)) d_F_flash_12 ⟨Nat.zero_le _, Nat.zero_le _⟩) (fun zz hz => ?_)
  subst hz
  refine lv_iload_n hx hb d_F_flash_15 rfl (lv_at hl 3 rfl) ?_
  obtain ⟨r16, hc16, hF⟩ := tx_b hF
  refine vp_callSi (W.runV (As := [.int r12, .int a3]) (rest := []) ⟨hx, hb, hml, hown, hts⟩ (c_M_wordAt l dC dI cA q1 q5 q6 wd er r12 a3 r16 hc16) (cwV 2 hts (tg_V bq_2_154 bq_1_73 bq_1_74 bq_1_2 bq_1_75) rfl rfl rfl (by decide +kernel) ⟨Nat.le_of_ble_eq_true rfl, Nat.le_of_ble_eq_true rfl⟩) ⟨tx_blR, (va_recv (ci := 0) (q0 := 1) hK hP rfl rfl), tx_preR (hP.sub (ws' := (wM cA q1 q5 q6 wd er)) [1, 5, 6] rfl) hK⟩ rfl rfl hl.1 rfl (lv_room (Nat.le_of_ble_eq_true rfl)) d_F_flash_16 ⟨Nat.zero_le _, Nat.zero_le _⟩) (fun zz hz => ?_)
  subst hz
  exact W.iret hx hb hr (fun t ht hW => ⟨_, rfl, (Option.some.inj hF).symm, ht⟩) (fun q h => by cases h) d_F_flash_19
abbrev rm_F_mount : Room := { frames := 4, cells := 0, slots := 0, locals := 90 }
set_option maxHeartbeats 4000000 in
set_option maxRecDepth 100000 in
theorem c_F_mount (l : Launch) (dC : Nat → ClassId) (dI : Nat → Nat → Nat) (cA : ClassId) (h0 q1 q2 q3 q4 q5 q6 sz : Nat) (st pl tk wd er : Nat → Int32) (nx md : Int32)  (r : Int32) (st' : Nat → Int32) (pl' : Nat → Int32) (tk' : Nat → Int32) (nx' : Int32) (hF : f_F_mount st pl tk wd nx = some (r, st', pl', tk', nx')) : Met l y_F_mount ws_F_mount rm_F_mount (tx_PW [.ref h0] (dC, dI) [(cA, .int)] (wF cA h0 q1 q2 q3 q4 q5 q6 st pl tk wd er nx md) sz) (va_Qi (S := Unit) (fun z _ => r = z) (fun _ t => va_P (dC, dI) vwCl (wF cA h0 q1 q2 q3 q4 q5 q6 (st') (pl') (tk') wd er (nx') md) t.heap ∧ va_D (va_A (wF cA h0 q1 q2 q3 q4 q5 q6 st pl tk wd er nx md) sz) (wF cA h0 q1 q2 q3 q4 q5 q6 (st') (pl') (tk') wd er (nx') md)) (va_A (wF cA h0 q1 q2 q3 q4 q5 q6 st pl tk wd er nx md) sz)) 0 0 (va_A (wF cA h0 q1 q2 q3 q4 q5 q6 st pl tk wd er nx md) sz) := by
  refine Met.ofW (cc := b_F_mount) (maxL := 5) (ret := some .int) (by decide +kernel) rfl ?_
  intro p e s m args below meth c s₁ B hml hv
  obtain ⟨hargs, hsz, hP, hK, hD0, hNw⟩ := hv
  have hx := B.exec
  have hb := B.bytes
  have hr := B.returns
  have hts := atoms_spec (ws := ws_F_mount) B.pre
  have hown : s.vm.findClass "FlashStore" = some m.cls := findClass_of_methodNamed B.named
  have hlocks := B.notSynchronized
  subst hsz
  have hD := hD0.self (sz := s.heap.size)
  generalize hAe : va_A (wF cA h0 q1 q2 q3 q4 q5 q6 st pl tk wd er nx md) s.heap.size = A at hD ⊢
  have hA : ∀ q : Nat, s.heap.size ≤ q → A q := fun q h => by rw [← hAe]; exact Or.inr h
  have hS : va_S A s.heap s.heap [] := va_S.rf
  have hP : va_P (dC, dI) vwCl (wF cA h0 q1 q2 q3 q4 q5 q6 st pl tk wd er nx md) s.heap := hP
  have w0 := (hts _ (List.mem_cons_of_mem _ bq_1_43))
  have w1 := (hts _ (List.mem_cons_of_mem _ bq_1_41))
  have w2 := hts (.constant "FlashStore" 41 (65535 : Int32)) (by decide +kernel)
  have w3 := (hts _ (List.mem_cons_of_mem _ bq_1_42))
  have w4 := (hts _ (List.mem_cons_of_mem _ bq_1_45))
  have hl := lv_entry ([.ref h0]) (n := 5) (Nat.le_of_ble_eq_true rfl)
  have hen : entryFrame m args 5 = _ := (congrArg (fun z => entryFrame m z 5) hargs).trans (lg_entry_eq m ([.ref h0]) 5)
  refine W.eq hen ?_
  clear hen
  generalize (lg_sl ([.ref h0]) ++ List.replicate (5 - (lg_sl ([.ref h0])).length) Slot.unset).toArray = ls at hl ⊢
  have hl : lv_has ls 5 [(0, .ref h0)] := hl
  have J119 : ∀ (rc : (Nat → Int32) → (Nat → Int32) → (Nat → Int32) → (Nat → Int32) → Int32 → Int32 → Int32 → Option (Int32 × (Nat → Int32) × (Nat → Int32) × (Nat → Int32) × Int32)) (hrec0 : ∀ (H : Heap) (locs : List Loc) (ls : Array Slot) (st : Nat → Int32) (pl : Nat → Int32) (tk : Nat → Int32) (nx : Int32) (v1 : Int32) (v2 : Int32), va_P (dC, dI) vwCl (wF cA h0 q1 q2 q3 q4 q5 q6 st pl tk wd er nx md) H → va_D A (wF cA h0 q1 q2 q3 q4 q5 q6 st pl tk wd er nx md) → va_S A s.heap H locs → lv_has ls 5 [(0, .ref h0), (1, .int v1), (2, .int v2)] → rc st pl tk wd nx v1 v2 = some (r, st', pl', tk', nx') → W p l e (headSpec ws_F_mount rm_F_mount).room s m args below meth c H locs 0 0 (MQ below (va_Qi (S := Unit) (fun z _ => r = z) (fun _ t => va_P (dC, dI) vwCl (wF cA h0 q1 q2 q3 q4 q5 q6 (st') (pl') (tk') wd er (nx') md) t.heap ∧ va_D A (wF cA h0 q1 q2 q3 q4 q5 q6 (st') (pl') (tk') wd er (nx') md)) A) args s 0 0 A) (F0 m 12 ls [])), ∀ (H : Heap) (locs : List Loc) (ls : Array Slot) (st : Nat → Int32) (pl : Nat → Int32) (tk : Nat → Int32) (nx : Int32) (z0 : Int32), va_P (dC, dI) vwCl (wF cA h0 q1 q2 q3 q4 q5 q6 st pl tk wd er nx md) H → va_D A (wF cA h0 q1 q2 q3 q4 q5 q6 st pl tk wd er nx md) → va_S A s.heap H locs → lv_has ls 5 [(0, .ref h0)] → f_F_mount_J119 rc st pl tk wd nx z0 = some (r, st', pl', tk', nx') → W p l e (headSpec ws_F_mount rm_F_mount).room s m args below meth c H locs 0 0 (MQ below (va_Qi (S := Unit) (fun z _ => r = z) (fun _ t => va_P (dC, dI) vwCl (wF cA h0 q1 q2 q3 q4 q5 q6 (st') (pl') (tk') wd er (nx') md) t.heap ∧ va_D A (wF cA h0 q1 q2 q3 q4 q5 q6 (st') (pl') (tk') wd er (nx') md)) A) args s 0 0 A) (F0 m 119 ls [.int z0, .ref h0]) := by
    intro rc hrec0
    intro H locs ls st pl tk nx z0 hP hD hS hl hF
    have hF : ((f_F_countHeld pl).bind fun r123 => some (r123, st, pl, tk, z0)) = some (r, st', pl', tk', nx') := hF
    refine va_put (D := (dC, dI)) (ci := 1) (v := .int z0) (ty := .int) (C := "FlashStore") (T := TF) (N := 6) hx hb hts inTF tyTF tyTF_ok nmTF hown hK hP hD hS 0 rfl rfl 4 (by decide) w4 (fun _ h9 => h9) rfl (by decide +kernel) rfl rfl (Nat.le_of_ble_eq_true rfl) d_F_mount_119 (fun H locs hP hD hS => ?_)
    have hP : va_P (dC, dI) vwCl (wF cA h0 q1 q2 q3 q4 q5 q6 st pl tk wd er z0 md) H := hP
    have hD : va_D A (wF cA h0 q1 q2 q3 q4 q5 q6 st pl tk wd er z0 md) := hD
    refine lv_aload_n hx hb d_F_mount_122 rfl (lv_at hl 0 rfl) ?_
    obtain ⟨r123, hc123, hF⟩ := tx_b hF
    refine vp_callSi (W.runV (As := []) (rest := []) ⟨hx, hb, hml, hown, hts⟩ (c_F_countHeld l dC dI cA h0 q1 q2 q3 q4 q5 q6 st pl tk wd er z0 md r123 hc123) (cwV 0 hts (tg_V bq_1_128 bq_1_130 bq_s_3 bq_1_1 bq_1_131) rfl rfl rfl (by decide +kernel) ⟨Nat.le_of_ble_eq_true rfl, Nat.le_of_ble_eq_true rfl⟩) ⟨tx_blR, (va_recv (ci := 1) (q0 := 0) hK hP rfl rfl), tx_preR (hP) hK⟩ rfl rfl hl.1 rfl (lv_room (Nat.le_of_ble_eq_true rfl)) d_F_mount_123 ⟨Nat.zero_le _, Nat.zero_le _⟩) (fun zz hz => ?_)
    subst hz
    cases hF
    exact W.iret hx hb hr (fun t ht hW => ⟨⟨_, (), rfl, rfl, by rw [ht]; exact hP, hD⟩, hS.F ht⟩) hS.2.2 d_F_mount_126
  have J99 : ∀ (rc : (Nat → Int32) → (Nat → Int32) → (Nat → Int32) → (Nat → Int32) → Int32 → Int32 → Int32 → Option (Int32 × (Nat → Int32) × (Nat → Int32) × (Nat → Int32) × Int32)) (hrec0 : ∀ (H : Heap) (locs : List Loc) (ls : Array Slot) (st : Nat → Int32) (pl : Nat → Int32) (tk : Nat → Int32) (nx : Int32) (v1 : Int32) (v2 : Int32), va_P (dC, dI) vwCl (wF cA h0 q1 q2 q3 q4 q5 q6 st pl tk wd er nx md) H → va_D A (wF cA h0 q1 q2 q3 q4 q5 q6 st pl tk wd er nx md) → va_S A s.heap H locs → lv_has ls 5 [(0, .ref h0), (1, .int v1), (2, .int v2)] → rc st pl tk wd nx v1 v2 = some (r, st', pl', tk', nx') → W p l e (headSpec ws_F_mount rm_F_mount).room s m args below meth c H locs 0 0 (MQ below (va_Qi (S := Unit) (fun z _ => r = z) (fun _ t => va_P (dC, dI) vwCl (wF cA h0 q1 q2 q3 q4 q5 q6 (st') (pl') (tk') wd er (nx') md) t.heap ∧ va_D A (wF cA h0 q1 q2 q3 q4 q5 q6 (st') (pl') (tk') wd er (nx') md)) A) args s 0 0 A) (F0 m 12 ls [])), ∀ (H : Heap) (locs : List Loc) (ls : Array Slot) (st : Nat → Int32) (pl : Nat → Int32) (tk : Nat → Int32) (nx : Int32) (v1 : Int32) (v2 : Int32), va_P (dC, dI) vwCl (wF cA h0 q1 q2 q3 q4 q5 q6 st pl tk wd er nx md) H → va_D A (wF cA h0 q1 q2 q3 q4 q5 q6 st pl tk wd er nx md) → va_S A s.heap H locs → lv_has ls 5 [(0, .ref h0), (1, .int v1), (2, .int v2)] → f_F_mount_J99 rc st pl tk wd nx v1 v2 = some (r, st', pl', tk', nx') → W p l e (headSpec ws_F_mount rm_F_mount).room s m args below meth c H locs 0 0 (MQ below (va_Qi (S := Unit) (fun z _ => r = z) (fun _ t => va_P (dC, dI) vwCl (wF cA h0 q1 q2 q3 q4 q5 q6 (st') (pl') (tk') wd er (nx') md) t.heap ∧ va_D A (wF cA h0 q1 q2 q3 q4 q5 q6 (st') (pl') (tk') wd er (nx') md)) A) args s 0 0 A) (F0 m 99 ls []) := by
    intro rc hrec0
    intro H locs ls st pl tk nx v1 v2 hP hD hS hl hF
    have hF : (rc st pl tk wd nx v1 (v2 + (1 : Int32))) = some (r, st', pl', tk', nx') := hF
    refine lv_iinc (k := 2) (v := (v2 + (1 : Int32))) hx hb d_F_mount_99 hl rfl rfl (by decide) rfl (fun ls hl => ?_)
    have hl : lv_has ls 5 [(2, .int (v2 + (1 : Int32))), (0, .ref h0), (1, .int v1)] := hl
    refine lv_goto hx hb d_F_mount_102 (tgt := 12) (by decide) ?_
    exact hrec0 _ _ _ st pl tk nx v1 (v2 + (1 : Int32)) hP hD hS (lv_sub hl [1, 2, 0] rfl) hF
  have J98 : ∀ (rc : (Nat → Int32) → (Nat → Int32) → (Nat → Int32) → (Nat → Int32) → Int32 → Int32 → Int32 → Option (Int32 × (Nat → Int32) × (Nat → Int32) × (Nat → Int32) × Int32)) (hrec0 : ∀ (H : Heap) (locs : List Loc) (ls : Array Slot) (st : Nat → Int32) (pl : Nat → Int32) (tk : Nat → Int32) (nx : Int32) (v1 : Int32) (v2 : Int32), va_P (dC, dI) vwCl (wF cA h0 q1 q2 q3 q4 q5 q6 st pl tk wd er nx md) H → va_D A (wF cA h0 q1 q2 q3 q4 q5 q6 st pl tk wd er nx md) → va_S A s.heap H locs → lv_has ls 5 [(0, .ref h0), (1, .int v1), (2, .int v2)] → rc st pl tk wd nx v1 v2 = some (r, st', pl', tk', nx') → W p l e (headSpec ws_F_mount rm_F_mount).room s m args below meth c H locs 0 0 (MQ below (va_Qi (S := Unit) (fun z _ => r = z) (fun _ t => va_P (dC, dI) vwCl (wF cA h0 q1 q2 q3 q4 q5 q6 (st') (pl') (tk') wd er (nx') md) t.heap ∧ va_D A (wF cA h0 q1 q2 q3 q4 q5 q6 (st') (pl') (tk') wd er (nx') md)) A) args s 0 0 A) (F0 m 12 ls [])), ∀ (H : Heap) (locs : List Loc) (ls : Array Slot) (st : Nat → Int32) (pl : Nat → Int32) (tk : Nat → Int32) (nx : Int32) (v2 : Int32) (z0 : Int32), va_P (dC, dI) vwCl (wF cA h0 q1 q2 q3 q4 q5 q6 st pl tk wd er nx md) H → va_D A (wF cA h0 q1 q2 q3 q4 q5 q6 st pl tk wd er nx md) → va_S A s.heap H locs → lv_has ls 5 [(0, .ref h0), (2, .int v2)] → f_F_mount_J98 rc st pl tk wd nx v2 z0 = some (r, st', pl', tk', nx') → W p l e (headSpec ws_F_mount rm_F_mount).room s m args below meth c H locs 0 0 (MQ below (va_Qi (S := Unit) (fun z _ => r = z) (fun _ t => va_P (dC, dI) vwCl (wF cA h0 q1 q2 q3 q4 q5 q6 (st') (pl') (tk') wd er (nx') md) t.heap ∧ va_D A (wF cA h0 q1 q2 q3 q4 q5 q6 (st') (pl') (tk') wd er (nx') md)) A) args s 0 0 A) (F0 m 98 ls [.int z0]) := by
    intro rc hrec0
    intro H locs ls st pl tk nx v2 z0 hP hD hS hl hF
    have hF : (f_F_mount_J99 rc st pl tk wd nx z0 v2) = some (r, st', pl', tk', nx') := hF
    refine lv_istore_n hx hb d_F_mount_98 rfl hl (by decide) rfl (fun ls hl => ?_)
    have hl : lv_has ls 5 [(1, .int z0), (0, .ref h0), (2, .int v2)] := hl
    exact J99 _ hrec0 _ _ _ st pl tk nx z0 v2 hP hD hS (lv_sub hl [1, 0, 2] rfl) hF
  have J92 : ∀ (rc : (Nat → Int32) → (Nat → Int32) → (Nat → Int32) → (Nat → Int32) → Int32 → Int32 → Int32 → Option (Int32 × (Nat → Int32) × (Nat → Int32) × (Nat → Int32) × Int32)) (hrec0 : ∀ (H : Heap) (locs : List Loc) (ls : Array Slot) (st : Nat → Int32) (pl : Nat → Int32) (tk : Nat → Int32) (nx : Int32) (v1 : Int32) (v2 : Int32), va_P (dC, dI) vwCl (wF cA h0 q1 q2 q3 q4 q5 q6 st pl tk wd er nx md) H → va_D A (wF cA h0 q1 q2 q3 q4 q5 q6 st pl tk wd er nx md) → va_S A s.heap H locs → lv_has ls 5 [(0, .ref h0), (1, .int v1), (2, .int v2)] → rc st pl tk wd nx v1 v2 = some (r, st', pl', tk', nx') → W p l e (headSpec ws_F_mount rm_F_mount).room s m args below meth c H locs 0 0 (MQ below (va_Qi (S := Unit) (fun z _ => r = z) (fun _ t => va_P (dC, dI) vwCl (wF cA h0 q1 q2 q3 q4 q5 q6 (st') (pl') (tk') wd er (nx') md) t.heap ∧ va_D A (wF cA h0 q1 q2 q3 q4 q5 q6 (st') (pl') (tk') wd er (nx') md)) A) args s 0 0 A) (F0 m 12 ls [])), ∀ (H : Heap) (locs : List Loc) (ls : Array Slot) (st : Nat → Int32) (pl : Nat → Int32) (tk : Nat → Int32) (nx : Int32) (v2 : Int32) (v4 : Int32), va_P (dC, dI) vwCl (wF cA h0 q1 q2 q3 q4 q5 q6 st pl tk wd er nx md) H → va_D A (wF cA h0 q1 q2 q3 q4 q5 q6 st pl tk wd er nx md) → va_S A s.heap H locs → lv_has ls 5 [(0, .ref h0), (2, .int v2), (4, .int v4)] → f_F_mount_J92 rc st pl tk wd nx v2 v4 = some (r, st', pl', tk', nx') → W p l e (headSpec ws_F_mount rm_F_mount).room s m args below meth c H locs 0 0 (MQ below (va_Qi (S := Unit) (fun z _ => r = z) (fun _ t => va_P (dC, dI) vwCl (wF cA h0 q1 q2 q3 q4 q5 q6 (st') (pl') (tk') wd er (nx') md) t.heap ∧ va_D A (wF cA h0 q1 q2 q3 q4 q5 q6 (st') (pl') (tk') wd er (nx') md)) A) args s 0 0 A) (F0 m 92 ls []) := by
    intro rc hrec0
    intro H locs ls st pl tk nx v2 v4 hP hD hS hl hF
    have hF : (f_F_mount_J98 rc st pl tk wd nx v2 v4) = some (r, st', pl', tk', nx') := hF
    refine lv_iload hx hb d_F_mount_92 (lv_at hl 2 rfl) ?_
    refine lv_goto hx hb d_F_mount_94 (tgt := 98) (by decide) ?_
    exact J98 _ hrec0 _ _ _ st pl tk nx v2 v4 hP hD hS (lv_sub hl [0, 1] rfl) hF
  have LH : ∀ n : Nat, (∀ (H : Heap) (locs : List Loc) (ls : Array Slot) (st : Nat → Int32) (pl : Nat → Int32) (tk : Nat → Int32) (nx : Int32) (v1 : Int32) (v2 : Int32), va_P (dC, dI) vwCl (wF cA h0 q1 q2 q3 q4 q5 q6 st pl tk wd er nx md) H → va_D A (wF cA h0 q1 q2 q3 q4 q5 q6 st pl tk wd er nx md) → va_S A s.heap H locs → lv_has ls 5 [(0, .ref h0), (1, .int v1), (2, .int v2)] → f_F_mount_H n st pl tk wd nx v1 v2 = some (r, st', pl', tk', nx') → W p l e (headSpec ws_F_mount rm_F_mount).room s m args below meth c H locs 0 0 (MQ below (va_Qi (S := Unit) (fun z _ => r = z) (fun _ t => va_P (dC, dI) vwCl (wF cA h0 q1 q2 q3 q4 q5 q6 (st') (pl') (tk') wd er (nx') md) t.heap ∧ va_D A (wF cA h0 q1 q2 q3 q4 q5 q6 (st') (pl') (tk') wd er (nx') md)) A) args s 0 0 A) (F0 m 12 ls [])) := by
    intro n
    induction n with
    | zero =>
      exact (by intro H locs ls st pl tk nx v1 v2 hP hD hS hl hF; have hF : (none : Option (Int32 × (Nat → Int32) × (Nat → Int32) × (Nat → Int32) × Int32)) = _ := hF; cases hF)
    | succ n ih =>
      have hrec0 := ih
      intro H locs ls st pl tk nx v1 v2 hP hD hS hl hF
      have hF : (if (16 : Int32) ≤ v2 then (if v1 = (-1 : Int32) then (f_F_mount_J119 (f_F_mount_H n) st pl tk wd nx (0 : Int32)) else ((f_F_serialBehind v1).bind fun r116 => f_F_mount_J119 (f_F_mount_H n) st pl tk wd nx r116)) else ((f_M_tagAt wd v2).bind fun r23 => if r23 = (65535 : Int32) then (if v2 < 0 ∨ 16 ≤ v2.toNatClampNeg then none else f_F_mount_J99 (f_F_mount_H n) (upd st v2.toNatClampNeg (0 : Int32)) pl tk wd nx v1 v2) else ((f_F_isSpoilt r23).bind fun r44 => if r44 = 0 then ((f_F_take st pl tk v2 ((r23.toUInt32 >>> ((12 : Int32).toUInt32 &&& Int32.toUInt32 31)).toInt32) (r23 &&& (4095 : Int32))).bind fun (st75, pl75, tk75) => if v1 = (-1 : Int32) then (f_F_mount_J92 (f_F_mount_H n) st75 pl75 tk75 wd nx v2 (r23 &&& (4095 : Int32))) else ((f_F_isNewer (r23 &&& (4095 : Int32)) v1).bind fun r86 => if r86 = 0 then (f_F_mount_J98 (f_F_mount_H n) st75 pl75 tk75 wd nx v2 v1) else (f_F_mount_J92 (f_F_mount_H n) st75 pl75 tk75 wd nx v2 (r23 &&& (4095 : Int32))))) else (if v2 < 0 ∨ 16 ≤ v2.toNatClampNeg then none else f_F_mount_J99 (f_F_mount_H n) (upd st v2.toNatClampNeg (2 : Int32)) pl tk wd nx v1 v2)))) = some (r, st', pl', tk', nx') := hF
      refine lv_iload_n hx hb d_F_mount_12 rfl (lv_at hl 2 rfl) ?_
      refine lv_bipush (v := (16 : Int32)) hx hb d_F_mount_13 (by decide) ?_
      refine lv_icmp_ge hx hb d_F_mount_15 (tgt := 105) (by decide) (fun h15 => ?_) (fun h15 => ?_)
      · have hF := tx_t h15 hF
        refine lv_aload_n hx hb d_F_mount_105 rfl (lv_at hl 0 rfl) ?_
        refine lv_iload_n hx hb d_F_mount_106 rfl (lv_at hl 1 rfl) ?_
        refine lv_iconst (v := (-1 : Int32)) hx hb d_F_mount_107 (by decide) ?_
        refine lv_icmp_ne hx hb d_F_mount_108 (tgt := 115) (by decide) (fun h108 => ?_) (fun h108 => ?_)
        · have hF := tx_f h108 hF
          refine lv_iload_n hx hb d_F_mount_115 rfl (lv_at hl 1 rfl) ?_
          obtain ⟨r116, hc116, hF⟩ := tx_b hF
          refine vp_callSi (W.runS (As := [.int v1]) (rest := [.ref h0]) ⟨hx, hb, hml, hown, hts⟩ (c_F_serialBehind l v1 r116 hc116) (va_cwS 1 hts (tg_S bq_1_125 bq_1_126 bq_1_1 bq_1_127) rfl rfl rfl (by decide +kernel) ⟨Nat.le_of_ble_eq_true rfl, Nat.le_of_ble_eq_true rfl⟩) ⟨tx_bl0, tx_pre0⟩ rfl rfl hl.1 rfl (lv_room (Nat.le_of_ble_eq_true rfl)) d_F_mount_116 ⟨Nat.zero_le _, Nat.zero_le _⟩) (fun zz hz => ?_)
          subst hz
          exact J119 _ hrec0 _ _ _ st pl tk nx r116 hP hD hS (lv_sub hl [0] rfl) hF
        · have hF := tx_t h108 hF
          refine lv_iconst (v := (0 : Int32)) hx hb d_F_mount_111 (by decide) ?_
          refine lv_goto hx hb d_F_mount_112 (tgt := 119) (by decide) ?_
          exact J119 _ hrec0 _ _ _ st pl tk nx (0 : Int32) hP hD hS (lv_sub hl [0] rfl) hF
      · have hF := tx_f h15 hF
        refine lv_aload_n hx hb d_F_mount_18 rfl (lv_at hl 0 rfl) ?_
        refine va_get (D := (dC, dI)) (ci := 1) (v := .ref q1) (C := "FlashStore") (T := TF) (N := 6) hx hb hts inTF hown hK hP 0 rfl rfl 0 (by decide) w1 (fun _ h9 => h9) rfl d_F_mount_19 ?_
        refine lv_iload_n hx hb d_F_mount_22 rfl (lv_at hl 2 rfl) ?_
        obtain ⟨r23, hc23, hF⟩ := tx_b hF
        refine vp_callSi (W.runV (As := [.int v2]) (rest := []) ⟨hx, hb, hml, hown, hts⟩ (c_M_tagAt l dC dI cA q1 q5 q6 wd er v2 r23 hc23) (cwV 1 hts (tg_V bq_1_68 bq_1_69 bq_1_70 bq_1_2 bq_1_71) rfl rfl rfl (by decide +kernel) ⟨Nat.le_of_ble_eq_true rfl, Nat.le_of_ble_eq_true rfl⟩) ⟨tx_blR, (va_recv (ci := 0) (q0 := 1) hK hP rfl rfl), tx_preR (hP.sub (ws' := (wM cA q1 q5 q6 wd er)) [1, 5, 6] rfl) hK⟩ rfl rfl hl.1 rfl (lv_room (Nat.le_of_ble_eq_true rfl)) d_F_mount_23 ⟨Nat.zero_le _, Nat.zero_le _⟩) (fun zz hz => ?_)
        subst hz
        refine lv_istore_n hx hb d_F_mount_26 rfl hl (by decide) rfl (fun ls hl => ?_)
        have hl : lv_has ls 5 [(3, .int r23), (0, .ref h0), (1, .int v1), (2, .int v2)] := hl
        refine lv_iload_n hx hb d_F_mount_27 rfl (lv_at hl 0 rfl) ?_
        refine lv_ldc hx hb hown w2 d_F_mount_28 ?_
        refine lv_icmp_ne hx hb d_F_mount_30 (tgt := 43) (by decide) (fun h30 => ?_) (fun h30 => ?_)
        · have hF := tx_f h30 hF
          refine lv_iload_n hx hb d_F_mount_43 rfl (lv_at hl 0 rfl) ?_
          obtain ⟨r44, hc44, hF⟩ := tx_b hF
          refine vp_callSi (W.runS (As := [.int r23]) (rest := []) ⟨hx, hb, hml, hown, hts⟩ (c_F_isSpoilt l r23 r44 hc44) (va_cwS 1 hts (tg_S bq_1_104 bq_1_105 bq_1_1 bq_1_106) rfl rfl rfl (by decide +kernel) ⟨Nat.le_of_ble_eq_true rfl, Nat.le_of_ble_eq_true rfl⟩) ⟨tx_bl0, tx_pre0⟩ rfl rfl hl.1 rfl (lv_room (Nat.le_of_ble_eq_true rfl)) d_F_mount_44 ⟨Nat.zero_le _, Nat.zero_le _⟩) (fun zz hz => ?_)
          subst hz
          refine lv_if_eq hx hb d_F_mount_47 (tgt := 60) (by decide) (fun h47 => ?_) (fun h47 => ?_)
          · have hF := tx_t h47 hF
            refine lv_iload_n hx hb d_F_mount_60 rfl (lv_at hl 0 rfl) ?_
            refine lv_sipush (v := (4095 : Int32)) hx hb d_F_mount_61 (by decide) ?_
            refine lv_iand hx hb d_F_mount_64 ?_
            refine lv_istore hx hb d_F_mount_65 hl (by decide) rfl (fun ls hl => ?_)
            have hl : lv_has ls 5 [(4, .int (r23 &&& (4095 : Int32))), (3, .int r23), (0, .ref h0), (1, .int v1), (2, .int v2)] := hl
            refine lv_aload_n hx hb d_F_mount_67 rfl (lv_at hl 2 rfl) ?_
            refine lv_iload_n hx hb d_F_mount_68 rfl (lv_at hl 4 rfl) ?_
            refine lv_iload_n hx hb d_F_mount_69 rfl (lv_at hl 1 rfl) ?_
            refine lv_bipush (v := (12 : Int32)) hx hb d_F_mount_70 (by decide) ?_
            refine lv_iushr hx hb d_F_mount_72 rfl ?_
            refine lv_iload hx hb d_F_mount_73 (lv_at hl 0 rfl) ?_
            obtain ⟨⟨st75, pl75, tk75⟩, hc75, hF⟩ := tx_b hF
            try dsimp only at hF
            have hPc := hP.sub (ws' := (wF cA h0 q1 q2 q3 q4 q5 q6 st pl tk wd er nx md)) [0, 1, 2, 3, 4, 5, 6] rfl
            have hDc := hD.sub (ws' := (wF cA h0 q1 q2 q3 q4 q5 q6 st pl tk wd er nx md)) [0, 1, 2, 3, 4, 5, 6] (by decide) rfl
            have hFc := va_free (wc := (wF cA h0 q1 q2 q3 q4 q5 q6 st pl tk wd er nx md)) hD hS hA [0, 1, 2, 3, 4, 5, 6] rfl
            refine va_callv (va_runV (As := [.int v2, .int ((r23.toUInt32 >>> ((12 : Int32).toUInt32 &&& Int32.toUInt32 31)).toInt32), .int (r23 &&& (4095 : Int32))]) (rest := []) ⟨hx, hb, hml, hown, hts⟩ (c_F_take l dC dI cA h0 q1 q2 q3 q4 q5 q6 H.size st pl tk wd er nx md v2 ((r23.toUInt32 >>> ((12 : Int32).toUInt32 &&& Int32.toUInt32 31)).toInt32) (r23 &&& (4095 : Int32)) st75 pl75 tk75 hc75) (cwV 3 hts (tg_V bq_1_107 bq_1_109 bq_s_0 bq_1_1 bq_1_110) rfl rfl rfl (by decide +kernel) ⟨Nat.le_of_ble_eq_true rfl, Nat.le_of_ble_eq_true rfl⟩) ⟨tx_blW, (va_recv (ci := 1) (q0 := 0) hK hP rfl rfl), tx_preW hPc hDc hK hNw⟩ rfl rfl hl.1 rfl (lv_room (Nat.le_of_ble_eq_true rfl)) d_F_mount_75 ⟨Nat.zero_le _, Nat.zero_le _⟩) hS (fun q _ h => hFc q h) hFc (fun _u t H locs ht hvm hw hB hz1 hk1 hS => ?_)
            obtain ⟨hP1, hD1⟩ := hB
            rw [ht] at hP1
            obtain ⟨hP2, hD2⟩ := va_join (wr := []) (w1 := (wF cA h0 q1 q2 q3 q4 q5 q6 st75 pl75 tk75 wd er nx md)) hP hD [0, 1, 2, 3, 4, 5, 6] [] rfl rfl (by decide) (by decide) hk1 hFc hP1 hD1
            have hP := hP2.sub (ws' := (wF cA h0 q1 q2 q3 q4 q5 q6 st75 pl75 tk75 wd er nx md)) [0, 1, 2, 3, 4, 5, 6] rfl
            have hD := hD2.sub (ws' := (wF cA h0 q1 q2 q3 q4 q5 q6 st75 pl75 tk75 wd er nx md)) [0, 1, 2, 3, 4, 5, 6] (by decide) rfl
            refine lv_iload_n hx hb d_F_mount_78 rfl (lv_at hl 3 rfl) ?_
            refine lv_iconst (v := (-1 : Int32)) hx hb d_F_mount_79 (by decide) ?_
            refine lv_icmp_eq hx hb d_F_mount_80 (tgt := 92) (by decide) (fun h80 => ?_) (fun h80 => ?_)
            · have hF := tx_t h80 hF
              exact J92 _ hrec0 _ _ _ st75 pl75 tk75 nx v2 (r23 &&& (4095 : Int32)) hP hD hS (lv_sub hl [2, 4, 0] rfl) hF
            · have hF := tx_f h80 hF
              refine lv_iload hx hb d_F_mount_83 (lv_at hl 0 rfl) ?_
              refine lv_iload_n hx hb d_F_mount_85 rfl (lv_at hl 3 rfl) ?_
              obtain ⟨r86, hc86, hF⟩ := tx_b hF
              refine vp_callSi (W.runS (As := [.int (r23 &&& (4095 : Int32)), .int v1]) (rest := []) ⟨hx, hb, hml, hown, hts⟩ (c_F_isNewer l (r23 &&& (4095 : Int32)) v1 r86 hc86) (va_cwS 2 hts (tg_S bq_1_111 bq_1_112 bq_1_1 bq_1_113) rfl rfl rfl (by decide +kernel) ⟨Nat.le_of_ble_eq_true rfl, Nat.le_of_ble_eq_true rfl⟩) ⟨tx_bl0, tx_pre0⟩ rfl rfl hl.1 rfl (lv_room (Nat.le_of_ble_eq_true rfl)) d_F_mount_86 ⟨Nat.zero_le _, Nat.zero_le _⟩) (fun zz hz => ?_)
              subst hz
              refine lv_if_eq hx hb d_F_mount_89 (tgt := 97) (by decide) (fun h89 => ?_) (fun h89 => ?_)
              · have hF := tx_t h89 hF
                refine lv_iload_n hx hb d_F_mount_97 rfl (lv_at hl 3 rfl) ?_
                exact J98 _ hrec0 _ _ _ st75 pl75 tk75 nx v2 v1 hP hD hS (lv_sub hl [2, 4] rfl) hF
              · have hF := tx_f h89 hF
                exact J92 _ hrec0 _ _ _ st75 pl75 tk75 nx v2 (r23 &&& (4095 : Int32)) hP hD hS (lv_sub hl [2, 4, 0] rfl) hF
          · have hF := tx_f h47 hF
            refine lv_aload_n hx hb d_F_mount_50 rfl (lv_at hl 1 rfl) ?_
            refine va_get (D := (dC, dI)) (ci := 1) (v := .ref q2) (C := "FlashStore") (T := TF) (N := 6) hx hb hts inTF hown hK hP 0 rfl rfl 1 (by decide) w3 (fun _ h9 => h9) rfl d_F_mount_51 ?_
            refine lv_iload_n hx hb d_F_mount_54 rfl (lv_at hl 3 rfl) ?_
            refine lv_iconst (v := (2 : Int32)) hx hb d_F_mount_55 (by decide) ?_
            obtain ⟨hi56, hF⟩ := tx_g hF
            refine va_iast hx hb hK hP hD hS 2 0 rfl rfl hi56 d_F_mount_56 (fun H locs hP hD hS => ?_)
            have hP : va_P (dC, dI) vwCl (wF cA h0 q1 q2 q3 q4 q5 q6 (upd st v2.toNatClampNeg (2 : Int32)) pl tk wd er nx md) H := hP
            have hD : va_D A (wF cA h0 q1 q2 q3 q4 q5 q6 (upd st v2.toNatClampNeg (2 : Int32)) pl tk wd er nx md) := hD
            refine lv_goto hx hb d_F_mount_57 (tgt := 99) (by decide) ?_
            exact J99 _ hrec0 _ _ _ (upd st v2.toNatClampNeg (2 : Int32)) pl tk nx v1 v2 hP hD hS (lv_sub hl [1, 2, 3] rfl) hF
        · have hF := tx_t h30 hF
          refine lv_aload_n hx hb d_F_mount_33 rfl (lv_at hl 1 rfl) ?_
          refine va_get (D := (dC, dI)) (ci := 1) (v := .ref q2) (C := "FlashStore") (T := TF) (N := 6) hx hb hts inTF hown hK hP 0 rfl rfl 1 (by decide) w3 (fun _ h9 => h9) rfl d_F_mount_34 ?_
          refine lv_iload_n hx hb d_F_mount_37 rfl (lv_at hl 3 rfl) ?_
          refine lv_iconst (v := (0 : Int32)) hx hb d_F_mount_38 (by decide) ?_
          obtain ⟨hi39, hF⟩ := tx_g hF
          refine va_iast hx hb hK hP hD hS 2 0 rfl rfl hi39 d_F_mount_39 (fun H locs hP hD hS => ?_)
          have hP : va_P (dC, dI) vwCl (wF cA h0 q1 q2 q3 q4 q5 q6 (upd st v2.toNatClampNeg (0 : Int32)) pl tk wd er nx md) H := hP
          have hD : va_D A (wF cA h0 q1 q2 q3 q4 q5 q6 (upd st v2.toNatClampNeg (0 : Int32)) pl tk wd er nx md) := hD
          refine lv_goto hx hb d_F_mount_40 (tgt := 99) (by decide) ?_
          exact J99 _ hrec0 _ _ _ (upd st v2.toNatClampNeg (0 : Int32)) pl tk nx v1 v2 hP hD hS (lv_sub hl [1, 2, 3] rfl) hF
  obtain hrec0 := LH 100
  have hF : (f_F_mount_H 100 st (kf_fill 8 pl (-1 : Int32)) tk wd nx (-1 : Int32) (0 : Int32)) = some (r, st', pl', tk', nx') := hF
  refine lv_aload_n hx hb d_F_mount_0 rfl (lv_at hl 0 rfl) ?_
  refine va_get (D := (dC, dI)) (ci := 1) (v := .ref q3) (C := "FlashStore") (T := TF) (N := 6) hx hb hts inTF hown hK hP 0 rfl rfl 2 (by decide) w0 (fun _ h9 => h9) rfl d_F_mount_1 ?_
  refine lv_iconst (v := (-1 : Int32)) hx hb d_F_mount_4 (by decide) ?_
  have hPc := hP.sub (ws' := [(q3, .inl (cA, 8, .inl pl))]) [3] rfl
  have hDc := hD.sub (ws' := [(q3, .inl (cA, 8, .inl pl))]) [3] (by decide) rfl
  have hFc := va_free (wc := [(q3, .inl (cA, 8, .inl pl))]) hD hS hA [3] rfl
  refine va_callv (va_runS (As := [.ref q3, .int (-1 : Int32)]) (rest := []) ⟨hx, hb, hml, hown, hts⟩ (c_U_fill l dC dI cA q3 8 s.heap.size pl (-1 : Int32) (by decide)) (va_cwS 2 hts (tg_S bq_1_40 bq_1_30 bq_1_3 bq_1_31) rfl rfl rfl (by decide +kernel) ⟨Nat.le_of_ble_eq_true rfl, Nat.le_of_ble_eq_true rfl⟩) ⟨tx_blW, tx_preW hPc hDc hK hNw⟩ rfl rfl hl.1 rfl (lv_room (Nat.le_of_ble_eq_true rfl)) d_F_mount_5 ⟨Nat.zero_le _, Nat.zero_le _⟩) hS (fun q _ h => hFc q h) hFc (fun _u t H locs ht hvm hw hB hz1 hk1 hS => ?_)
  obtain ⟨hP1, hD1⟩ := hB
  rw [ht] at hP1
  obtain ⟨hP2, hD2⟩ := va_join (wr := [(h0, .inr (1, [.ref q1, .ref q2, .ref q3, .ref q4, .int nx, .int md])), (q1, .inr (0, [.ref q5, .ref q6])), (q2, .inl (cA, 16, .inl st)), (q4, .inl (cA, 8, .inl tk)), (q5, .inl (cA, 80, .inl wd)), (q6, .inl (cA, 4, .inl er))]) (w1 := [(q3, .inl (cA, 8, .inl (kf_fill 8 pl (-1 : Int32))))]) hP hD [3] [0, 1, 2, 4, 5, 6] rfl rfl (by decide) (by decide) hk1 hFc hP1 hD1
  have hP := hP2.sub (ws' := (wF cA h0 q1 q2 q3 q4 q5 q6 st (kf_fill 8 pl (-1 : Int32)) tk wd er nx md)) [0, 1, 2, 6, 3, 4, 5] rfl
  have hD := hD2.sub (ws' := (wF cA h0 q1 q2 q3 q4 q5 q6 st (kf_fill 8 pl (-1 : Int32)) tk wd er nx md)) [0, 1, 2, 6, 3, 4, 5] (by decide) rfl
  refine lv_iconst (v := (-1 : Int32)) hx hb d_F_mount_8 (by decide) ?_
  refine lv_istore_n hx hb d_F_mount_9 rfl hl (by decide) rfl (fun ls hl => ?_)
  have hl : lv_has ls 5 [(1, .int (-1 : Int32)), (0, .ref h0)] := hl
  refine lv_iconst (v := (0 : Int32)) hx hb d_F_mount_10 (by decide) ?_
  refine lv_istore_n hx hb d_F_mount_11 rfl hl (by decide) rfl (fun ls hl => ?_)
  have hl : lv_has ls 5 [(2, .int (0 : Int32)), (1, .int (-1 : Int32)), (0, .ref h0)] := hl
  exact hrec0 _ _ _ st (kf_fill 8 pl (-1 : Int32)) tk nx (-1 : Int32) (0 : Int32) hP hD hS (lv_sub hl [2, 1, 0] rfl) hF
abbrev rm_F_clean : Room := { frames := 7, cells := 0, slots := 0, locals := 159 }
set_option maxHeartbeats 4000000 in
set_option maxRecDepth 100000 in
theorem c_F_clean (l : Launch) (dC : Nat → ClassId) (dI : Nat → Nat → Nat) (cA : ClassId) (h0 q1 q2 q3 q4 q5 q6 sz : Nat) (st pl tk wd er : Nat → Int32) (nx md : Int32)  (r : Int32) (st' : Nat → Int32) (pl' : Nat → Int32) (wd' : Nat → Int32) (er' : Nat → Int32) (nx' : Int32) (hF : f_F_clean st pl wd er nx = some (r, st', pl', wd', er', nx')) : Met l y_F_clean ws_F_clean rm_F_clean (tx_PW [.ref h0] (dC, dI) [(cA, .int)] (wF cA h0 q1 q2 q3 q4 q5 q6 st pl tk wd er nx md) sz) (va_Qi (S := Unit) (fun z _ => r = z) (fun _ t => va_P (dC, dI) vwCl (wF cA h0 q1 q2 q3 q4 q5 q6 (st') (pl') tk (wd') (er') (nx') md) t.heap ∧ va_D (va_A (wF cA h0 q1 q2 q3 q4 q5 q6 st pl tk wd er nx md) sz) (wF cA h0 q1 q2 q3 q4 q5 q6 (st') (pl') tk (wd') (er') (nx') md)) (va_A (wF cA h0 q1 q2 q3 q4 q5 q6 st pl tk wd er nx md) sz)) 0 0 (va_A (wF cA h0 q1 q2 q3 q4 q5 q6 st pl tk wd er nx md) sz) := by
  refine Met.ofW (cc := b_F_clean) (maxL := 2) (ret := some .int) (by decide +kernel) rfl ?_
  intro p e s m args below meth c s₁ B hml hv
  obtain ⟨hargs, hsz, hP, hK, hD0, hNw⟩ := hv
  have hx := B.exec
  have hb := B.bytes
  have hr := B.returns
  have hts := atoms_spec (ws := ws_F_clean) B.pre
  have hown : s.vm.findClass "FlashStore" = some m.cls := findClass_of_methodNamed B.named
  have hlocks := B.notSynchronized
  subst hsz
  have hD := hD0.self (sz := s.heap.size)
  generalize hAe : va_A (wF cA h0 q1 q2 q3 q4 q5 q6 st pl tk wd er nx md) s.heap.size = A at hD ⊢
  have hA : ∀ q : Nat, s.heap.size ≤ q → A q := fun q h => by rw [← hAe]; exact Or.inr h
  have hS : va_S A s.heap s.heap [] := va_S.rf
  have hP : va_P (dC, dI) vwCl (wF cA h0 q1 q2 q3 q4 q5 q6 st pl tk wd er nx md) s.heap := hP
  have hl := lv_entry ([.ref h0]) (n := 2) (Nat.le_of_ble_eq_true rfl)
  have hen : entryFrame m args 2 = _ := (congrArg (fun z => entryFrame m z 2) hargs).trans (lg_entry_eq m ([.ref h0]) 2)
  refine W.eq hen ?_
  clear hen
  generalize (lg_sl ([.ref h0]) ++ List.replicate (2 - (lg_sl ([.ref h0])).length) Slot.unset).toArray = ls at hl ⊢
  have hl : lv_has ls 2 [(0, .ref h0)] := hl
  have hF : ((f_F_blockToClean st er).bind fun r1 => if r1 = (-1 : Int32) then (none) else ((f_F_cleanBlock st pl wd er nx r1).bind fun (st22, pl22, wd22, er22, nx22) => some (r1, st22, pl22, wd22, er22, nx22))) = some (r, st', pl', wd', er', nx') := hF
  refine lv_aload_n hx hb d_F_clean_0 rfl (lv_at hl 0 rfl) ?_
  obtain ⟨r1, hc1, hF⟩ := tx_b hF
  refine vp_callSi (W.runV (As := []) (rest := []) ⟨hx, hb, hml, hown, hts⟩ (c_F_blockToClean l dC dI cA h0 q1 q2 q3 q4 q5 q6 st pl tk wd er nx md r1 hc1) (cwV 0 hts (tg_V bq_2_37 bq_2_39 bq_s_9 bq_1_1 bq_2_40) rfl rfl rfl (by decide +kernel) ⟨Nat.le_of_ble_eq_true rfl, Nat.le_of_ble_eq_true rfl⟩) ⟨tx_blR, (va_recv (ci := 1) (q0 := 0) hK hP rfl rfl), tx_preR (hP) hK⟩ rfl rfl hl.1 rfl (lv_room (Nat.le_of_ble_eq_true rfl)) d_F_clean_1 ⟨Nat.zero_le _, Nat.zero_le _⟩) (fun zz hz => ?_)
  subst hz
  refine lv_istore_n hx hb d_F_clean_4 rfl hl (by decide) rfl (fun ls hl => ?_)
  have hl : lv_has ls 2 [(1, .int r1), (0, .ref h0)] := hl
  refine lv_iload_n hx hb d_F_clean_5 rfl (lv_at hl 0 rfl) ?_
  refine lv_iconst (v := (-1 : Int32)) hx hb d_F_clean_6 (by decide) ?_
  refine lv_icmp_ne hx hb d_F_clean_7 (tgt := 20) (by decide) (fun h7 => ?_) (fun h7 => ?_)
  · have hF := tx_f h7 hF
    refine lv_aload_n hx hb d_F_clean_20 rfl (lv_at hl 1 rfl) ?_
    refine lv_iload_n hx hb d_F_clean_21 rfl (lv_at hl 0 rfl) ?_
    obtain ⟨⟨st22, pl22, wd22, er22, nx22⟩, hc22, hF⟩ := tx_b hF
    try dsimp only at hF
    have hPc := hP.sub (ws' := (wF cA h0 q1 q2 q3 q4 q5 q6 st pl tk wd er nx md)) [0, 1, 2, 3, 4, 5, 6] rfl
    have hDc := hD.sub (ws' := (wF cA h0 q1 q2 q3 q4 q5 q6 st pl tk wd er nx md)) [0, 1, 2, 3, 4, 5, 6] (by decide) rfl
    have hFc := va_free (wc := (wF cA h0 q1 q2 q3 q4 q5 q6 st pl tk wd er nx md)) hD hS hA [0, 1, 2, 3, 4, 5, 6] rfl
    refine va_callv (va_runV (As := [.int r1]) (rest := []) ⟨hx, hb, hml, hown, hts⟩ (c_F_cleanBlock l dC dI cA h0 q1 q2 q3 q4 q5 q6 s.heap.size st pl tk wd er nx md r1 st22 pl22 wd22 er22 nx22 hc22) (cwV 1 hts (tg_V bq_2_73 bq_2_75 bq_s_13 bq_1_1 bq_2_76) rfl rfl rfl (by decide +kernel) ⟨Nat.le_of_ble_eq_true rfl, Nat.le_of_ble_eq_true rfl⟩) ⟨tx_blW, (va_recv (ci := 1) (q0 := 0) hK hP rfl rfl), tx_preW hPc hDc hK hNw⟩ rfl rfl hl.1 rfl (lv_room (Nat.le_of_ble_eq_true rfl)) d_F_clean_22 ⟨Nat.zero_le _, Nat.zero_le _⟩) hS (fun q _ h => hFc q h) hFc (fun _u t H locs ht hvm hw hB hz1 hk1 hS => ?_)
    obtain ⟨hP1, hD1⟩ := hB
    rw [ht] at hP1
    obtain ⟨hP2, hD2⟩ := va_join (wr := []) (w1 := (wF cA h0 q1 q2 q3 q4 q5 q6 st22 pl22 tk wd22 er22 nx22 md)) hP hD [0, 1, 2, 3, 4, 5, 6] [] rfl rfl (by decide) (by decide) hk1 hFc hP1 hD1
    have hP := hP2.sub (ws' := (wF cA h0 q1 q2 q3 q4 q5 q6 st22 pl22 tk wd22 er22 nx22 md)) [0, 1, 2, 3, 4, 5, 6] rfl
    have hD := hD2.sub (ws' := (wF cA h0 q1 q2 q3 q4 q5 q6 st22 pl22 tk wd22 er22 nx22 md)) [0, 1, 2, 3, 4, 5, 6] (by decide) rfl
    refine lv_iload_n hx hb d_F_clean_25 rfl (lv_at hl 0 rfl) ?_
    cases hF
    exact W.iret hx hb hr (fun t ht hW => ⟨⟨_, (), rfl, rfl, by rw [ht]; exact hP, hD⟩, hS.F ht⟩) hS.2.2 d_F_clean_26
  · have hF := tx_t h7 hF
    cases hF
abbrev rm_F_place : Room := { frames := 1, cells := 0, slots := 0, locals := 20 }
set_option maxHeartbeats 4000000 in
set_option maxRecDepth 100000 in
theorem c_F_place (l : Launch) (dC : Nat → ClassId) (dI : Nat → Nat → Nat) (cA : ClassId) (h0 q1 q2 q3 q4 q5 q6 : Nat) (st pl tk wd er : Nat → Int32) (nx md : Int32) (a1 : Int32) (r : Int32)  (hF : f_F_place pl a1 = some r) : Met l y_F_place ws_F_place rm_F_place (tx_PR [.ref h0, .int a1] (dC, dI) [(cA, .int)] (wF cA h0 q1 q2 q3 q4 q5 q6 st pl tk wd er nx md)) (vp_Si (fun z => r = z)) 0 0 (fun _ => False) := by
  refine Met.ofW (cc := b_F_place) (maxL := 2) (ret := some .int) (by decide +kernel) rfl ?_
  intro p e s m args below meth c s₁ B hml hv
  obtain ⟨hargs, hP, hK⟩ := hv
  have hx := B.exec
  have hb := B.bytes
  have hr := B.returns
  have hts := atoms_spec (ws := ws_F_place) B.pre
  have hown : s.vm.findClass "FlashStore" = some m.cls := findClass_of_methodNamed B.named
  have hlocks := B.notSynchronized
  have w0 := (hts _ (List.mem_cons_of_mem _ bq_1_43))
  have hl := lv_entry ([.ref h0, .int a1]) (n := 2) (Nat.le_of_ble_eq_true rfl)
  have hen : entryFrame m args 2 = _ := (congrArg (fun z => entryFrame m z 2) hargs).trans (lg_entry_eq m ([.ref h0, .int a1]) 2)
  refine W.eq hen ?_
  clear hen
  generalize (lg_sl ([.ref h0, .int a1]) ++ List.replicate (2 - (lg_sl ([.ref h0, .int a1])).length) Slot.unset).toArray = ls at hl ⊢
  have hl : lv_has ls 2 [(0, .ref h0), (1, .int a1)] := hl
  have hF : ((f_F_requireLogicalPage a1).bind fun _ => if a1 < 0 ∨ 8 ≤ a1.toNatClampNeg then none else some (pl a1.toNatClampNeg)) = some r := hF
  refine lv_iload_n hx hb d_F_place_0 rfl (lv_at hl 1 rfl) ?_
  obtain ⟨_u, hc1, hF⟩ := tx_b hF
  refine va_csv (W.runS (As := [.int a1]) (rest := []) ⟨hx, hb, hml, hown, hts⟩ (c_F_requireLogicalPage l a1 _u hc1) (va_cwS 1 hts (tg_S bq_2_11 bq_2_12 bq_1_1 bq_2_13) rfl rfl rfl (by decide +kernel) ⟨Nat.le_of_ble_eq_true rfl, Nat.le_of_ble_eq_true rfl⟩) ⟨tx_bl0, tx_pre0⟩ rfl rfl hl.1 rfl (lv_room (Nat.le_of_ble_eq_true rfl)) d_F_place_1 ⟨Nat.zero_le _, Nat.zero_le _⟩) (fun _ => ?_)
  refine lv_aload_n hx hb d_F_place_4 rfl (lv_at hl 0 rfl) ?_
  refine va_get (D := (dC, dI)) (ci := 1) (v := .ref q3) (C := "FlashStore") (T := TF) (N := 6) hx hb hts inTF hown hK hP 0 rfl rfl 2 (by decide) w0 (fun _ h9 => h9) rfl d_F_place_5 ?_
  refine lv_iload_n hx hb d_F_place_8 rfl (lv_at hl 1 rfl) ?_
  obtain ⟨hi9, hF⟩ := tx_g hF
  refine va_iald hx hb hK hP 3 0 rfl rfl hi9 d_F_place_9 ?_
  exact W.iret hx hb hr (fun t ht hW => ⟨_, rfl, (Option.some.inj hF).symm, ht⟩) (fun q h => by cases h) d_F_place_10
abbrev rm_F_state : Room := { frames := 1, cells := 0, slots := 0, locals := 21 }
set_option maxHeartbeats 4000000 in
set_option maxRecDepth 100000 in
theorem c_F_state (l : Launch) (dC : Nat → ClassId) (dI : Nat → Nat → Nat) (cA : ClassId) (h0 q1 q2 q3 q4 q5 q6 : Nat) (st pl tk wd er : Nat → Int32) (nx md : Int32) (a1 : Int32) (a2 : Int32) (r : Int32)  (hF : f_F_state st a1 a2 = some r) : Met l y_F_state ws_F_state rm_F_state (tx_PR [.ref h0, .int a1, .int a2] (dC, dI) [(cA, .int)] (wF cA h0 q1 q2 q3 q4 q5 q6 st pl tk wd er nx md)) (vp_Si (fun z => r = z)) 0 0 (fun _ => False) := by
  refine Met.ofW (cc := b_F_state) (maxL := 3) (ret := some .int) (by decide +kernel) rfl ?_
  intro p e s m args below meth c s₁ B hml hv
  obtain ⟨hargs, hP, hK⟩ := hv
  have hx := B.exec
  have hb := B.bytes
  have hr := B.returns
  have hts := atoms_spec (ws := ws_F_state) B.pre
  have hown : s.vm.findClass "FlashStore" = some m.cls := findClass_of_methodNamed B.named
  have hlocks := B.notSynchronized
  have w0 := (hts _ (List.mem_cons_of_mem _ bq_1_42))
  have hl := lv_entry ([.ref h0, .int a1, .int a2]) (n := 3) (Nat.le_of_ble_eq_true rfl)
  have hen : entryFrame m args 3 = _ := (congrArg (fun z => entryFrame m z 3) hargs).trans (lg_entry_eq m ([.ref h0, .int a1, .int a2]) 3)
  refine W.eq hen ?_
  clear hen
  generalize (lg_sl ([.ref h0, .int a1, .int a2]) ++ List.replicate (3 - (lg_sl ([.ref h0, .int a1, .int a2])).length) Slot.unset).toArray = ls at hl ⊢
  have hl : lv_has ls 3 [(0, .ref h0), (1, .int a1), (2, .int a2)] := hl
  have hF : ((f_F_requireBlock a1).bind fun _ => (f_F_requirePageOfBlock a2).bind fun _ => (f_F_placeOf a1 a2).bind fun r14 => if r14 < 0 ∨ 16 ≤ r14.toNatClampNeg then none else some (st r14.toNatClampNeg)) = some r := hF
  refine lv_iload_n hx hb d_F_state_0 rfl (lv_at hl 1 rfl) ?_
  obtain ⟨_u, hc1, hF⟩ := tx_b hF
  refine va_csv (W.runS (As := [.int a1]) (rest := []) ⟨hx, hb, hml, hown, hts⟩ (c_F_requireBlock l a1 _u hc1) (va_cwS 1 hts (tg_S bq_2_134 bq_2_135 bq_1_1 bq_2_136) rfl rfl rfl (by decide +kernel) ⟨Nat.le_of_ble_eq_true rfl, Nat.le_of_ble_eq_true rfl⟩) ⟨tx_bl0, tx_pre0⟩ rfl rfl hl.1 rfl (lv_room (Nat.le_of_ble_eq_true rfl)) d_F_state_1 ⟨Nat.zero_le _, Nat.zero_le _⟩) (fun _ => ?_)
  refine lv_iload_n hx hb d_F_state_4 rfl (lv_at hl 2 rfl) ?_
  obtain ⟨_u, hc5, hF⟩ := tx_b hF
  refine va_csv (W.runS (As := [.int a2]) (rest := []) ⟨hx, hb, hml, hown, hts⟩ (c_F_requirePageOfBlock l a2 _u hc5) (va_cwS 1 hts (tg_S bq_2_138 bq_2_139 bq_1_1 bq_2_140) rfl rfl rfl (by decide +kernel) ⟨Nat.le_of_ble_eq_true rfl, Nat.le_of_ble_eq_true rfl⟩) ⟨tx_bl0, tx_pre0⟩ rfl rfl hl.1 rfl (lv_room (Nat.le_of_ble_eq_true rfl)) d_F_state_5 ⟨Nat.zero_le _, Nat.zero_le _⟩) (fun _ => ?_)
  refine lv_aload_n hx hb d_F_state_8 rfl (lv_at hl 0 rfl) ?_
  refine va_get (D := (dC, dI)) (ci := 1) (v := .ref q2) (C := "FlashStore") (T := TF) (N := 6) hx hb hts inTF hown hK hP 0 rfl rfl 1 (by decide) w0 (fun _ h9 => h9) rfl d_F_state_9 ?_
  refine lv_iload_n hx hb d_F_state_12 rfl (lv_at hl 1 rfl) ?_
  refine lv_iload_n hx hb d_F_state_13 rfl (lv_at hl 2 rfl) ?_
  obtain ⟨r14, hc14, hF⟩ := tx_b hF
  refine vp_callSi (W.runS (As := [.int a1, .int a2]) (rest := [.ref q2]) ⟨hx, hb, hml, hown, hts⟩ (c_F_placeOf l a1 a2 r14 hc14) (va_cwS 2 hts (tg_S bq_2_34 bq_2_35 bq_1_1 bq_2_36) rfl rfl rfl (by decide +kernel) ⟨Nat.le_of_ble_eq_true rfl, Nat.le_of_ble_eq_true rfl⟩) ⟨tx_bl0, tx_pre0⟩ rfl rfl hl.1 rfl (lv_room (Nat.le_of_ble_eq_true rfl)) d_F_state_14 ⟨Nat.zero_le _, Nat.zero_le _⟩) (fun zz hz => ?_)
  subst hz
  obtain ⟨hi17, hF⟩ := tx_g hF
  refine va_iald hx hb hK hP 2 0 rfl rfl hi17 d_F_state_17 ?_
  exact W.iret hx hb hr (fun t ht hW => ⟨_, rfl, (Option.some.inj hF).symm, ht⟩) (fun q h => by cases h) d_F_state_18
abbrev rm_F_wear : Room := { frames := 1, cells := 0, slots := 0, locals := 21 }
set_option maxHeartbeats 4000000 in
set_option maxRecDepth 100000 in
theorem c_F_wear (l : Launch) (dC : Nat → ClassId) (dI : Nat → Nat → Nat) (cA : ClassId) (h0 q1 q2 q3 q4 q5 q6 : Nat) (st pl tk wd er : Nat → Int32) (nx md : Int32) (a1 : Int32) (r : Int32)  (hF : f_F_wear er a1 = some r) : Met l y_F_wear ws_F_wear rm_F_wear (tx_PR [.ref h0, .int a1] (dC, dI) [(cA, .int)] (wF cA h0 q1 q2 q3 q4 q5 q6 st pl tk wd er nx md)) (vp_Si (fun z => r = z)) 0 0 (fun _ => False) := by
  refine Met.ofW (cc := b_F_wear) (maxL := 2) (ret := some .int) (by decide +kernel) rfl ?_
  intro p e s m args below meth c s₁ B hml hv
  obtain ⟨hargs, hP, hK⟩ := hv
  have hx := B.exec
  have hb := B.bytes
  have hr := B.returns
  have hts := atoms_spec (ws := ws_F_wear) B.pre
  have hown : s.vm.findClass "FlashStore" = some m.cls := findClass_of_methodNamed B.named
  have hlocks := B.notSynchronized
  have w0 := (hts _ (List.mem_cons_of_mem _ bq_1_41))
  have hl := lv_entry ([.ref h0, .int a1]) (n := 2) (Nat.le_of_ble_eq_true rfl)
  have hen : entryFrame m args 2 = _ := (congrArg (fun z => entryFrame m z 2) hargs).trans (lg_entry_eq m ([.ref h0, .int a1]) 2)
  refine W.eq hen ?_
  clear hen
  generalize (lg_sl ([.ref h0, .int a1]) ++ List.replicate (2 - (lg_sl ([.ref h0, .int a1])).length) Slot.unset).toArray = ls at hl ⊢
  have hl : lv_has ls 2 [(0, .ref h0), (1, .int a1)] := hl
  have hF : ((f_F_requireBlock a1).bind fun _ => (f_M_erasuresOf er a1).bind fun r9 => some r9) = some r := hF
  refine lv_iload_n hx hb d_F_wear_0 rfl (lv_at hl 1 rfl) ?_
  obtain ⟨_u, hc1, hF⟩ := tx_b hF
  refine va_csv (W.runS (As := [.int a1]) (rest := []) ⟨hx, hb, hml, hown, hts⟩ (c_F_requireBlock l a1 _u hc1) (va_cwS 1 hts (tg_S bq_2_134 bq_2_135 bq_1_1 bq_2_136) rfl rfl rfl (by decide +kernel) ⟨Nat.le_of_ble_eq_true rfl, Nat.le_of_ble_eq_true rfl⟩) ⟨tx_bl0, tx_pre0⟩ rfl rfl hl.1 rfl (lv_room (Nat.le_of_ble_eq_true rfl)) d_F_wear_1 ⟨Nat.zero_le _, Nat.zero_le _⟩) (fun _ => ?_)
  refine lv_aload_n hx hb d_F_wear_4 rfl (lv_at hl 0 rfl) ?_
  refine va_get (D := (dC, dI)) (ci := 1) (v := .ref q1) (C := "FlashStore") (T := TF) (N := 6) hx hb hts inTF hown hK hP 0 rfl rfl 0 (by decide) w0 (fun _ h9 => h9) rfl d_F_wear_5 ?_
  refine lv_iload_n hx hb d_F_wear_8 rfl (lv_at hl 1 rfl) ?_
  obtain ⟨r9, hc9, hF⟩ := tx_b hF
  refine vp_callSi (W.runV (As := [.int a1]) (rest := []) ⟨hx, hb, hml, hown, hts⟩ (c_M_erasuresOf l dC dI cA q1 q5 q6 wd er a1 r9 hc9) (cwV 1 hts (tg_V bq_2_53 bq_2_54 bq_2_55 bq_1_2 bq_2_56) rfl rfl rfl (by decide +kernel) ⟨Nat.le_of_ble_eq_true rfl, Nat.le_of_ble_eq_true rfl⟩) ⟨tx_blR, (va_recv (ci := 0) (q0 := 1) hK hP rfl rfl), tx_preR (hP.sub (ws' := (wM cA q1 q5 q6 wd er)) [1, 5, 6] rfl) hK⟩ rfl rfl hl.1 rfl (lv_room (Nat.le_of_ble_eq_true rfl)) d_F_wear_9 ⟨Nat.zero_le _, Nat.zero_le _⟩) (fun zz hz => ?_)
  subst hz
  exact W.iret hx hb hr (fun t ht hW => ⟨_, rfl, (Option.some.inj hF).symm, ht⟩) (fun q h => by cases h) d_F_wear_12
abbrev rm_F_serial : Room := { frames := 0, cells := 0, slots := 0, locals := 0 }
set_option maxHeartbeats 4000000 in
set_option maxRecDepth 100000 in
theorem c_F_serial (l : Launch) (dC : Nat → ClassId) (dI : Nat → Nat → Nat) (cA : ClassId) (h0 q1 q2 q3 q4 q5 q6 : Nat) (st pl tk wd er : Nat → Int32) (nx md : Int32)  (r : Int32)  (hF : f_F_serial nx = some r) : Met l y_F_serial ws_F_serial rm_F_serial (tx_PR [.ref h0] (dC, dI) [(cA, .int)] (wF cA h0 q1 q2 q3 q4 q5 q6 st pl tk wd er nx md)) (vp_Si (fun z => r = z)) 0 0 (fun _ => False) := by
  refine Met.ofW (cc := b_F_serial) (maxL := 1) (ret := some .int) (by decide +kernel) rfl ?_
  intro p e s m args below meth c s₁ B hml hv
  obtain ⟨hargs, hP, hK⟩ := hv
  have hx := B.exec
  have hb := B.bytes
  have hr := B.returns
  have hts := atoms_spec (ws := ws_F_serial) B.pre
  have hown : s.vm.findClass "FlashStore" = some m.cls := findClass_of_methodNamed B.named
  have hlocks := B.notSynchronized
  have w0 := (hts _ (List.mem_cons_of_mem _ bq_1_45))
  have hl := lv_entry ([.ref h0]) (n := 1) (Nat.le_of_ble_eq_true rfl)
  have hen : entryFrame m args 1 = _ := (congrArg (fun z => entryFrame m z 1) hargs).trans (lg_entry_eq m ([.ref h0]) 1)
  refine W.eq hen ?_
  clear hen
  generalize (lg_sl ([.ref h0]) ++ List.replicate (1 - (lg_sl ([.ref h0])).length) Slot.unset).toArray = ls at hl ⊢
  have hl : lv_has ls 1 [(0, .ref h0)] := hl
  have hF : (some nx) = some r := hF
  refine lv_aload_n hx hb d_F_serial_0 rfl (lv_at hl 0 rfl) ?_
  refine va_get (D := (dC, dI)) (ci := 1) (v := .int nx) (C := "FlashStore") (T := TF) (N := 6) hx hb hts inTF hown hK hP 0 rfl rfl 4 (by decide) w0 (fun _ h9 => h9) rfl d_F_serial_1 ?_
  exact W.iret hx hb hr (fun t ht hW => ⟨_, rfl, (Option.some.inj hF).symm, ht⟩) (fun q h => by cases h) d_F_serial_4
