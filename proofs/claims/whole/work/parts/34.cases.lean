def f_W108_J161 (L : Nat) (xs : Nat → Int32) (v4 : Int32) (st : Nat → Int32) (pl : Nat → Int32) (tk : Nat → Int32) (wd : Nat → Int32) (er : Nat → Int32) (mrm : Nat → Int32) (mfl : Nat → Int32) (mus : Nat → Int32) (mlg : Nat → Int32) (mse : Nat → Int32) (mwe : Nat → Int32) (mwh : Nat → Int32) (nx : Int32) (md : Int32) (mth : Int32) (mnx : Int32) (mmd : Int32) (mwr : Int32) (ou : Nat → Int64)  : Option ((Nat → Int32) × (Nat → Int32) × (Nat → Int32) × (Nat → Int32) × (Nat → Int32) × (Nat → Int32) × (Nat → Int32) × (Nat → Int32) × (Nat → Int32) × (Nat → Int32) × (Nat → Int32) × (Nat → Int32) × Int32 × Int32 × Int32 × Int32 × Int32 × Int32 × (Nat → Int64)) := some (st, pl, tk, wd, er, mrm, mfl, mus, mlg, mse, mwe, mwh, nx, md, mth, mnx, mmd, mwr, ou)
def f_W108 (L : Nat) (xs : Nat → Int32) (st : Nat → Int32) (pl : Nat → Int32) (tk : Nat → Int32) (wd : Nat → Int32) (er : Nat → Int32) (mrm : Nat → Int32) (mfl : Nat → Int32) (mus : Nat → Int32) (mlg : Nat → Int32) (mse : Nat → Int32) (mwe : Nat → Int32) (mwh : Nat → Int32) (nx : Int32) (md : Int32) (mth : Int32) (mnx : Int32) (mmd : Int32) (mwr : Int32) (ou : Nat → Int64) (v4 : Int32) : Option ((Nat → Int32) × (Nat → Int32) × (Nat → Int32) × (Nat → Int32) × (Nat → Int32) × (Nat → Int32) × (Nat → Int32) × (Nat → Int32) × (Nat → Int32) × (Nat → Int32) × (Nat → Int32) × (Nat → Int32) × Int32 × Int32 × Int32 × Int32 × Int32 × Int32 × (Nat → Int64)) := if (v4 + (1 : Int32)) < 0 ∨ L ≤ (v4 + (1 : Int32)).toNatClampNeg then none else (f_L_encode ou (xs (v4 + (1 : Int32)).toNatClampNeg)).bind fun (r116, ou116) => if (v4 + (1 : Int32)) < 0 ∨ L ≤ (v4 + (1 : Int32)).toNatClampNeg then none else (f_R_encode mrm mth (xs (v4 + (1 : Int32)).toNatClampNeg)).bind fun (r128, mth128) => (f_R_thrown mth128).bind fun r134 => if r134 = r116 then (if r116 = 0 then (if (0 : Int32) < 0 ∨ 1 ≤ (0 : Int32).toNatClampNeg then none else if (lg_cmp (ou116 (0 : Int32).toNatClampNeg) r128.toInt64) = 0 then (f_W108_J161 L xs v4 st pl tk wd er mrm mfl mus mlg mse mwe mwh nx md mth128 mnx mmd mwr ou116) else (none)) else (f_W108_J161 L xs v4 st pl tk wd er mrm mfl mus mlg mse mwe mwh nx md mth128 mnx mmd mwr ou116)) else (none)
set_option maxHeartbeats 4000000 in
set_option maxRecDepth 100000 in
theorem cs_108 {p : Program} {l : Launch} {e : Env} {s : State} {m : MethodId} {args : Array Value} {below : List Frame} {meth : Method} {c : Code} {Q : State → Prop} {c1 : Cond} (hx : p.tables.exec = Jvm.exec) (hb : c.code = b_L_law) (hml : c.maxLocals = 8) (hown : s.vm.findClass "FlashStoreLaw" = some m.cls) (hts : ∀ w ∈ c1 :: bw, w.before args s = true) (hfl : l.flags = pinnedFlags ++ [noTraceFlag]) {dC : Nat → ClassId} {dI : Nat → Nat → Nat} {cA cL : ClassId} (hK : va_K (dC, dI) vwCl [(cA, .int), (cL, .long)] s) (hNw : va_Nw tx_nest s) (hE : tx_E s) {b L : Nat} {xs : Nat → Int32} (hX : va_X b L xs s s.heap) (hbl : b < s.heap.size) (h0 q1 q2 q3 q4 q5 q6 g0 g1 g2 g3 g4 g5 g6 g7 qo : Nat) (st pl tk wd er mrm mfl mus mlg mse mwe mwh : Nat → Int32) (nx md mth mnx mmd mwr : Int32) (ou : Nat → Int64) (v4 : Int32) (kc ks : Nat) (hkc : kc + 1 ≤ 601024) (hks : ks + 6 ≤ 7293034) (st' : Nat → Int32) (pl' : Nat → Int32) (tk' : Nat → Int32) (wd' : Nat → Int32) (er' : Nat → Int32) (mrm' : Nat → Int32) (mfl' : Nat → Int32) (mus' : Nat → Int32) (mlg' : Nat → Int32) (mse' : Nat → Int32) (mwe' : Nat → Int32) (mwh' : Nat → Int32) (nx' : Int32) (md' : Int32) (mth' : Int32) (mnx' : Int32) (mmd' : Int32) (mwr' : Int32) (ou' : Nat → Int64) (hF : f_W108 L xs st pl tk wd er mrm mfl mus mlg mse mwe mwh nx md mth mnx mmd mwr ou v4 = some (st', pl', tk', wd', er', mrm', mfl', mus', mlg', mse', mwe', mwh', nx', md', mth', mnx', mmd', mwr', ou')) (hnext : ∀ (H : Heap) (locs : List Loc) (ls : Array Slot), va_P (dC, dI) vwCl (wW cA cL h0 q1 q2 q3 q4 q5 q6 g0 g1 g2 g3 g4 g5 g6 g7 qo (st') (pl') (tk') (wd') (er') (mrm') (mfl') (mus') (mlg') (mse') (mwe') (mwh') (nx') (md') (mth') (mnx') (mmd') (mwr') (ou')) H → va_D (fun q => s.heap.size ≤ q) (wW cA cL h0 q1 q2 q3 q4 q5 q6 g0 g1 g2 g3 g4 g5 g6 g7 qo (st') (pl') (tk') (wd') (er') (mrm') (mfl') (mus') (mlg') (mse') (mwe') (mwh') (nx') (md') (mth') (mnx') (mmd') (mwr') (ou')) → va_S (fun q => s.heap.size ≤ q) s.heap H locs → lv_has ls 8 [(0, .ref b), (1, .ref h0), (2, .ref g0), (3, .ref qo), (4, .int v4)] → W p l e room_1 s m args below meth c H locs (kc + 1) (ks + 6) Q (F0 m 833 ls [])) (H : Heap) (locs : List Loc) (ls : Array Slot) (hP : va_P (dC, dI) vwCl (wW cA cL h0 q1 q2 q3 q4 q5 q6 g0 g1 g2 g3 g4 g5 g6 g7 qo st pl tk wd er mrm mfl mus mlg mse mwe mwh nx md mth mnx mmd mwr ou) H) (hD : va_D (fun q => s.heap.size ≤ q) (wW cA cL h0 q1 q2 q3 q4 q5 q6 g0 g1 g2 g3 g4 g5 g6 g7 qo st pl tk wd er mrm mfl mus mlg mse mwe mwh nx md mth mnx mmd mwr ou)) (hS : va_S (fun q => s.heap.size ≤ q) s.heap H locs) (hl : lv_has ls 8 [(0, .ref b), (1, .ref h0), (2, .ref g0), (3, .ref qo), (4, .int v4)]) : W p l e room_1 s m args below meth c H locs kc ks Q (F0 m 108 ls []) := by
  have hK1 : va_K (dC, dI) vwCl [(cA, .int)] s := hK.sub [0] rfl
  have hA : ∀ q : Nat, s.heap.size ≤ q → s.heap.size ≤ q := fun _ h => h
  have J161 : ∀ (H : Heap) (locs : List Loc) (ls : Array Slot) (st : Nat → Int32) (pl : Nat → Int32) (tk : Nat → Int32) (wd : Nat → Int32) (er : Nat → Int32) (mrm : Nat → Int32) (mfl : Nat → Int32) (mus : Nat → Int32) (mlg : Nat → Int32) (mse : Nat → Int32) (mwe : Nat → Int32) (mwh : Nat → Int32) (nx : Int32) (md : Int32) (mth : Int32) (mnx : Int32) (mmd : Int32) (mwr : Int32) (ou : Nat → Int64), va_P (dC, dI) vwCl (wW cA cL h0 q1 q2 q3 q4 q5 q6 g0 g1 g2 g3 g4 g5 g6 g7 qo st pl tk wd er mrm mfl mus mlg mse mwe mwh nx md mth mnx mmd mwr ou) H → va_D (fun q => s.heap.size ≤ q) (wW cA cL h0 q1 q2 q3 q4 q5 q6 g0 g1 g2 g3 g4 g5 g6 g7 qo st pl tk wd er mrm mfl mus mlg mse mwe mwh nx md mth mnx mmd mwr ou) → va_S (fun q => s.heap.size ≤ q) s.heap H locs → lv_has ls 8 [(0, .ref b), (1, .ref h0), (2, .ref g0), (3, .ref qo), (4, .int v4)] → f_W108_J161 L xs v4 st pl tk wd er mrm mfl mus mlg mse mwe mwh nx md mth mnx mmd mwr ou = some (st', pl', tk', wd', er', mrm', mfl', mus', mlg', mse', mwe', mwh', nx', md', mth', mnx', mmd', mwr', ou') → W p l e room_1 s m args below meth c H locs (kc + 1) (ks + 6) Q (F0 m 161 ls []) := by
    intro H locs ls st pl tk wd er mrm mfl mus mlg mse mwe mwh nx md mth mnx mmd mwr ou hP hD hS hl hF
    have hF : (some (st, pl, tk, wd, er, mrm, mfl, mus, mlg, mse, mwe, mwh, nx, md, mth, mnx, mmd, mwr, ou)) = some (st', pl', tk', wd', er', mrm', mfl', mus', mlg', mse', mwe', mwh', nx', md', mth', mnx', mmd', mwr', ou') := hF
    refine lv_goto hx hb d_L_law_161 (tgt := 833) (by decide) ?_
    cases hF
    exact hnext _ _ _ hP hD hS (lv_sub hl [0, 1, 2, 3, 4] rfl)
  have hF : (if (v4 + (1 : Int32)) < 0 ∨ L ≤ (v4 + (1 : Int32)).toNatClampNeg then none else (f_L_encode ou (xs (v4 + (1 : Int32)).toNatClampNeg)).bind fun (r116, ou116) => if (v4 + (1 : Int32)) < 0 ∨ L ≤ (v4 + (1 : Int32)).toNatClampNeg then none else (f_R_encode mrm mth (xs (v4 + (1 : Int32)).toNatClampNeg)).bind fun (r128, mth128) => (f_R_thrown mth128).bind fun r134 => if r134 = r116 then (if r116 = 0 then (if (0 : Int32) < 0 ∨ 1 ≤ (0 : Int32).toNatClampNeg then none else if (lg_cmp (ou116 (0 : Int32).toNatClampNeg) r128.toInt64) = 0 then (f_W108_J161 L xs v4 st pl tk wd er mrm mfl mus mlg mse mwe mwh nx md mth128 mnx mmd mwr ou116) else (none)) else (f_W108_J161 L xs v4 st pl tk wd er mrm mfl mus mlg mse mwe mwh nx md mth128 mnx mmd mwr ou116)) else (none)) = some (st', pl', tk', wd', er', mrm', mfl', mus', mlg', mse', mwe', mwh', nx', md', mth', mnx', mmd', mwr', ou') := hF
  refine lv_aload_n hx hb d_L_law_108 rfl (lv_at hl 1 rfl) ?_
  refine lv_aload_n hx hb d_L_law_109 rfl (lv_at hl 0 rfl) ?_
  refine lv_iload hx hb d_L_law_110 (lv_at hl 4 rfl) ?_
  refine lv_iconst (v := (1 : Int32)) hx hb d_L_law_112 (by decide) ?_
  refine lv_iadd hx hb d_L_law_113 ?_
  obtain ⟨hi114, hF⟩ := tx_g hF
  refine va_sld hx hb hX hbl (Nat.not_le.mpr hbl) hS hi114 d_L_law_114 ?_
  refine lv_aload_n hx hb d_L_law_115 rfl (lv_at hl 3 rfl) ?_
  obtain ⟨⟨r116, ou116⟩, hc116, hF⟩ := tx_b hF
  try dsimp only at hF
  have hPc := hP.sub (ws' := (wH cA cL h0 q1 q2 q3 q4 q5 q6 qo st pl tk wd er nx md ou)) [0, 1, 2, 3, 4, 5, 6, 15] rfl
  have hDc := hD.sub (ws' := (wH cA cL h0 q1 q2 q3 q4 q5 q6 qo st pl tk wd er nx md ou)) [0, 1, 2, 3, 4, 5, 6, 15] (by decide) rfl
  have hFc := va_free (wc := (wH cA cL h0 q1 q2 q3 q4 q5 q6 qo st pl tk wd er nx md ou)) hD hS hA [0, 1, 2, 3, 4, 5, 6, 15] rfl
  refine va_calli (tx_runSW (n := 3) (As := [.ref h0, .int (xs (v4 + (1 : Int32)).toNatClampNeg), .ref qo]) (rest := []) ⟨hx, hb, hml, hown, hts⟩ (c_L_encode l dC dI cA cL h0 q1 q2 q3 q4 q5 q6 qo H.size st pl tk wd er nx md ou (xs (v4 + (1 : Int32)).toNatClampNeg) r116 ou116 hc116 hfl) (tg_S bq_1_136 bq_1_137 bq_1_0 bq_1_138) rfl rfl rfl (by decide +kernel) ⟨Nat.le_of_ble_eq_true rfl, Nat.le_of_ble_eq_true rfl⟩ ⟨tx_blH, tx_preH hPc hDc hK hNw (tx_E_up hE hS)⟩ rfl rfl hl.1 rfl (lv_room (Nat.le_of_ble_eq_true rfl)) d_L_law_116 ⟨hkc, hks⟩) hS (fun q _ h => hFc q h) hFc (fun zz _u t H locs ht hvm hw hB hz1 hk1 hS => ?_)
  subst hw
  obtain ⟨hP1, hD1⟩ := hB
  rw [ht] at hP1
  obtain ⟨hP2, hD2⟩ := va_join (wr := [(g0, .inr (2, [.int mth, .ref g1, .ref g2, .ref g3, .ref g4, .ref g5, .ref g6, .ref g7, .int mnx, .int mmd, .int mwr])), (g1, .inl (cA, 31, .inl mrm)), (g2, .inl (cA, 80, .inl mfl)), (g3, .inl (cA, 16, .inl mus)), (g4, .inl (cA, 16, .inl mlg)), (g5, .inl (cA, 16, .inl mse)), (g6, .inl (cA, 4, .inl mwe)), (g7, .inl (cA, 8, .inl mwh))]) (w1 := (wH cA cL h0 q1 q2 q3 q4 q5 q6 qo st pl tk wd er nx md ou116)) hP hD [0, 1, 2, 3, 4, 5, 6, 15] [7, 8, 9, 10, 11, 12, 13, 14] rfl rfl (by decide) (by decide) hk1 hFc hP1 hD1
  have hP := hP2.sub (ws' := (wW cA cL h0 q1 q2 q3 q4 q5 q6 g0 g1 g2 g3 g4 g5 g6 g7 qo st pl tk wd er mrm mfl mus mlg mse mwe mwh nx md mth mnx mmd mwr ou116)) [8, 9, 10, 11, 12, 13, 14, 0, 1, 2, 3, 4, 5, 6, 7, 15] rfl
  have hD := hD2.sub (ws' := (wW cA cL h0 q1 q2 q3 q4 q5 q6 g0 g1 g2 g3 g4 g5 g6 g7 qo st pl tk wd er mrm mfl mus mlg mse mwe mwh nx md mth mnx mmd mwr ou116)) [8, 9, 10, 11, 12, 13, 14, 0, 1, 2, 3, 4, 5, 6, 7, 15] (by decide) rfl
  refine lv_istore hx hb d_L_law_119 hl (by decide) rfl (fun ls hl => ?_)
  have hl : lv_has ls 8 [(5, .int r116), (0, .ref b), (1, .ref h0), (2, .ref g0), (3, .ref qo), (4, .int v4)] := hl
  refine lv_aload_n hx hb d_L_law_121 rfl (lv_at hl 3 rfl) ?_
  refine lv_aload_n hx hb d_L_law_122 rfl (lv_at hl 1 rfl) ?_
  refine lv_iload hx hb d_L_law_123 (lv_at hl 5 rfl) ?_
  refine lv_iconst (v := (1 : Int32)) hx hb d_L_law_125 (by decide) ?_
  refine lv_iadd hx hb d_L_law_126 ?_
  obtain ⟨hi127, hF⟩ := tx_g hF
  refine va_sld hx hb hX hbl (Nat.not_le.mpr hbl) hS hi127 d_L_law_127 ?_
  obtain ⟨⟨r128, mth128⟩, hc128, hF⟩ := tx_b hF
  try dsimp only at hF
  have hPc := hP.sub (ws' := (wR cA g0 g1 g2 g3 g4 g5 g6 g7 mrm mfl mus mlg mse mwe mwh mth mnx mmd mwr)) [7, 8, 9, 10, 11, 12, 13, 14] rfl
  have hDc := hD.sub (ws' := (wR cA g0 g1 g2 g3 g4 g5 g6 g7 mrm mfl mus mlg mse mwe mwh mth mnx mmd mwr)) [7, 8, 9, 10, 11, 12, 13, 14] (by decide) rfl
  have hFc := va_free (wc := (wR cA g0 g1 g2 g3 g4 g5 g6 g7 mrm mfl mus mlg mse mwe mwh mth mnx mmd mwr)) hD hS hA [7, 8, 9, 10, 11, 12, 13, 14] rfl
  refine va_calli (va_runV (As := [.int (xs (v4 + (1 : Int32)).toNatClampNeg)]) (rest := []) ⟨hx, hb, hml, hown, hts⟩ (c_R_encode l dC dI cA g0 g1 g2 g3 g4 g5 g6 g7 H.size mrm mfl mus mlg mse mwe mwh mth mnx mmd mwr (xs (v4 + (1 : Int32)).toNatClampNeg) r128 mth128 hc128) (cwV 1 hts (tg_V bq_2_230 bq_2_231 bq_2_232 bq_1_4 bq_2_233) rfl rfl rfl (by decide +kernel) ⟨Nat.le_of_ble_eq_true rfl, Nat.le_of_ble_eq_true rfl⟩) ⟨tx_blW, (va_recv (ci := 2) (q0 := 7) hK hP rfl rfl), tx_preW hPc hDc hK1 hNw⟩ rfl rfl hl.1 rfl (lv_room (Nat.le_of_ble_eq_true rfl)) d_L_law_128 ⟨hkc, hks⟩) hS (fun q _ h => hFc q h) hFc (fun zz _u t H locs ht hvm hw hB hz1 hk1 hS => ?_)
  subst hw
  obtain ⟨hP1, hD1⟩ := hB
  rw [ht] at hP1
  obtain ⟨hP2, hD2⟩ := va_join (wr := [(h0, .inr (1, [.ref q1, .ref q2, .ref q3, .ref q4, .int nx, .int md])), (q1, .inr (0, [.ref q5, .ref q6])), (q2, .inl (cA, 16, .inl st)), (q3, .inl (cA, 8, .inl pl)), (q4, .inl (cA, 8, .inl tk)), (q5, .inl (cA, 80, .inl wd)), (q6, .inl (cA, 4, .inl er)), (qo, .inl (cL, 1, .inr (.inl ou116)))]) (w1 := (wR cA g0 g1 g2 g3 g4 g5 g6 g7 mrm mfl mus mlg mse mwe mwh mth128 mnx mmd mwr)) hP hD [7, 8, 9, 10, 11, 12, 13, 14] [0, 1, 2, 3, 4, 5, 6, 15] rfl rfl (by decide) (by decide) hk1 hFc hP1 hD1
  have hP := hP2.sub (ws' := (wW cA cL h0 q1 q2 q3 q4 q5 q6 g0 g1 g2 g3 g4 g5 g6 g7 qo st pl tk wd er mrm mfl mus mlg mse mwe mwh nx md mth128 mnx mmd mwr ou116)) [0, 1, 2, 3, 4, 5, 6, 8, 9, 10, 11, 12, 13, 14, 15, 7] rfl
  have hD := hD2.sub (ws' := (wW cA cL h0 q1 q2 q3 q4 q5 q6 g0 g1 g2 g3 g4 g5 g6 g7 qo st pl tk wd er mrm mfl mus mlg mse mwe mwh nx md mth128 mnx mmd mwr ou116)) [0, 1, 2, 3, 4, 5, 6, 8, 9, 10, 11, 12, 13, 14, 15, 7] (by decide) rfl
  refine lv_istore hx hb d_L_law_131 hl (by decide) rfl (fun ls hl => ?_)
  have hl : lv_has ls 8 [(6, .int r128), (5, .int r116), (0, .ref b), (1, .ref h0), (2, .ref g0), (3, .ref qo), (4, .int v4)] := hl
  refine lv_aload_n hx hb d_L_law_133 rfl (lv_at hl 4 rfl) ?_
  obtain ⟨r134, hc134, hF⟩ := tx_b hF
  refine vp_callSi (W.runV (As := []) (rest := []) ⟨hx, hb, hml, hown, hts⟩ (c_R_thrown l dC dI cA g0 g1 g2 g3 g4 g5 g6 g7 mrm mfl mus mlg mse mwe mwh mth128 mnx mmd mwr r134 hc134) (cwV 0 hts (tg_V bq_2_226 bq_2_227 bq_2_228 bq_1_4 bq_2_229) rfl rfl rfl (by decide +kernel) ⟨Nat.le_of_ble_eq_true rfl, Nat.le_of_ble_eq_true rfl⟩) ⟨tx_blR, (va_recv (ci := 2) (q0 := 7) hK hP rfl rfl), tx_preR (hP.sub (ws' := (wR cA g0 g1 g2 g3 g4 g5 g6 g7 mrm mfl mus mlg mse mwe mwh mth128 mnx mmd mwr)) [7, 8, 9, 10, 11, 12, 13, 14] rfl) hK1⟩ rfl rfl hl.1 rfl (lv_room (Nat.le_of_ble_eq_true rfl)) d_L_law_134 ⟨hkc, hks⟩) (fun zz hz => ?_)
  subst hz
  refine lv_iload hx hb d_L_law_137 (lv_at hl 1 rfl) ?_
  refine lv_icmp_eq hx hb d_L_law_139 (tgt := 144) (by decide) (fun h139 => ?_) (fun h139 => ?_)
  · have hF := tx_t h139 hF
    refine lv_iload hx hb d_L_law_144 (lv_at hl 1 rfl) ?_
    refine lv_if_ne hx hb d_L_law_146 (tgt := 161) (by decide) (fun h146 => ?_) (fun h146 => ?_)
    · have hF := tx_f h146 hF
      exact J161 _ _ _ st pl tk wd er mrm mfl mus mlg mse mwe mwh nx md mth128 mnx mmd mwr ou116 hP hD hS (lv_sub hl [2, 3, 4, 5, 6] rfl) hF
    · have hF := tx_t h146 hF
      refine lv_aload_n hx hb d_L_law_149 rfl (lv_at hl 5 rfl) ?_
      refine lv_iconst (v := (0 : Int32)) hx hb d_L_law_150 (by decide) ?_
      obtain ⟨hi151, hF⟩ := tx_g hF
      refine va_lald hx hb hK hP 15 1 rfl rfl hi151 d_L_law_151 ?_
      refine lv_iload hx hb d_L_law_152 (lv_at hl 0 rfl) ?_
      refine lv_i2l hx hb d_L_law_154 rfl ?_
      refine W.lcmp hx hb d_L_law_155 ?_
      refine lv_if_eq hx hb d_L_law_156 (tgt := 161) (by decide) (fun h156 => ?_) (fun h156 => ?_)
      · have hF := tx_t h156 hF
        exact J161 _ _ _ st pl tk wd er mrm mfl mus mlg mse mwe mwh nx md mth128 mnx mmd mwr ou116 hP hD hS (lv_sub hl [2, 3, 4, 5, 6] rfl) hF
      · have hF := tx_f h156 hF
        refine lv_iconst (v := (0 : Int32)) hx hb d_L_law_159 (by decide) ?_
        cases hF
  · have hF := tx_f h139 hF
    refine lv_iconst (v := (0 : Int32)) hx hb d_L_law_142 (by decide) ?_
    cases hF
def f_W164_J217 (L : Nat) (xs : Nat → Int32) (v4 : Int32) (st : Nat → Int32) (pl : Nat → Int32) (tk : Nat → Int32) (wd : Nat → Int32) (er : Nat → Int32) (mrm : Nat → Int32) (mfl : Nat → Int32) (mus : Nat → Int32) (mlg : Nat → Int32) (mse : Nat → Int32) (mwe : Nat → Int32) (mwh : Nat → Int32) (nx : Int32) (md : Int32) (mth : Int32) (mnx : Int32) (mmd : Int32) (mwr : Int32) (ou : Nat → Int64)  : Option ((Nat → Int32) × (Nat → Int32) × (Nat → Int32) × (Nat → Int32) × (Nat → Int32) × (Nat → Int32) × (Nat → Int32) × (Nat → Int32) × (Nat → Int32) × (Nat → Int32) × (Nat → Int32) × (Nat → Int32) × Int32 × Int32 × Int32 × Int32 × Int32 × Int32 × (Nat → Int64)) := some (st, pl, tk, wd, er, mrm, mfl, mus, mlg, mse, mwe, mwh, nx, md, mth, mnx, mmd, mwr, ou)
def f_W164 (L : Nat) (xs : Nat → Int32) (st : Nat → Int32) (pl : Nat → Int32) (tk : Nat → Int32) (wd : Nat → Int32) (er : Nat → Int32) (mrm : Nat → Int32) (mfl : Nat → Int32) (mus : Nat → Int32) (mlg : Nat → Int32) (mse : Nat → Int32) (mwe : Nat → Int32) (mwh : Nat → Int32) (nx : Int32) (md : Int32) (mth : Int32) (mnx : Int32) (mmd : Int32) (mwr : Int32) (ou : Nat → Int64) (v4 : Int32) : Option ((Nat → Int32) × (Nat → Int32) × (Nat → Int32) × (Nat → Int32) × (Nat → Int32) × (Nat → Int32) × (Nat → Int32) × (Nat → Int32) × (Nat → Int32) × (Nat → Int32) × (Nat → Int32) × (Nat → Int32) × Int32 × Int32 × Int32 × Int32 × Int32 × Int32 × (Nat → Int64)) := if (v4 + (1 : Int32)) < 0 ∨ L ≤ (v4 + (1 : Int32)).toNatClampNeg then none else (f_L_decode md ou (xs (v4 + (1 : Int32)).toNatClampNeg)).bind fun (r172, md172, ou172) => if (v4 + (1 : Int32)) < 0 ∨ L ≤ (v4 + (1 : Int32)).toNatClampNeg then none else (f_R_decode mrm mth mmd mwr (xs (v4 + (1 : Int32)).toNatClampNeg)).bind fun (r184, mth184, mmd184, mwr184) => (f_R_thrown mth184).bind fun r190 => if r190 = r172 then (if r172 = 0 then (if (0 : Int32) < 0 ∨ 1 ≤ (0 : Int32).toNatClampNeg then none else if (lg_cmp (ou172 (0 : Int32).toNatClampNeg) r184.toInt64) = 0 then (f_W164_J217 L xs v4 st pl tk wd er mrm mfl mus mlg mse mwe mwh nx md172 mth184 mnx mmd184 mwr184 ou172) else (none)) else (f_W164_J217 L xs v4 st pl tk wd er mrm mfl mus mlg mse mwe mwh nx md172 mth184 mnx mmd184 mwr184 ou172)) else (none)
set_option maxHeartbeats 4000000 in
set_option maxRecDepth 100000 in
theorem cs_164 {p : Program} {l : Launch} {e : Env} {s : State} {m : MethodId} {args : Array Value} {below : List Frame} {meth : Method} {c : Code} {Q : State → Prop} {c1 : Cond} (hx : p.tables.exec = Jvm.exec) (hb : c.code = b_L_law) (hml : c.maxLocals = 8) (hown : s.vm.findClass "FlashStoreLaw" = some m.cls) (hts : ∀ w ∈ c1 :: bw, w.before args s = true) (hfl : l.flags = pinnedFlags ++ [noTraceFlag]) {dC : Nat → ClassId} {dI : Nat → Nat → Nat} {cA cL : ClassId} (hK : va_K (dC, dI) vwCl [(cA, .int), (cL, .long)] s) (hNw : va_Nw tx_nest s) (hE : tx_E s) {b L : Nat} {xs : Nat → Int32} (hX : va_X b L xs s s.heap) (hbl : b < s.heap.size) (h0 q1 q2 q3 q4 q5 q6 g0 g1 g2 g3 g4 g5 g6 g7 qo : Nat) (st pl tk wd er mrm mfl mus mlg mse mwe mwh : Nat → Int32) (nx md mth mnx mmd mwr : Int32) (ou : Nat → Int64) (v4 : Int32) (kc ks : Nat) (hkc : kc + 1 ≤ 601024) (hks : ks + 6 ≤ 7293034) (st' : Nat → Int32) (pl' : Nat → Int32) (tk' : Nat → Int32) (wd' : Nat → Int32) (er' : Nat → Int32) (mrm' : Nat → Int32) (mfl' : Nat → Int32) (mus' : Nat → Int32) (mlg' : Nat → Int32) (mse' : Nat → Int32) (mwe' : Nat → Int32) (mwh' : Nat → Int32) (nx' : Int32) (md' : Int32) (mth' : Int32) (mnx' : Int32) (mmd' : Int32) (mwr' : Int32) (ou' : Nat → Int64) (hF : f_W164 L xs st pl tk wd er mrm mfl mus mlg mse mwe mwh nx md mth mnx mmd mwr ou v4 = some (st', pl', tk', wd', er', mrm', mfl', mus', mlg', mse', mwe', mwh', nx', md', mth', mnx', mmd', mwr', ou')) (hnext : ∀ (H : Heap) (locs : List Loc) (ls : Array Slot), va_P (dC, dI) vwCl (wW cA cL h0 q1 q2 q3 q4 q5 q6 g0 g1 g2 g3 g4 g5 g6 g7 qo (st') (pl') (tk') (wd') (er') (mrm') (mfl') (mus') (mlg') (mse') (mwe') (mwh') (nx') (md') (mth') (mnx') (mmd') (mwr') (ou')) H → va_D (fun q => s.heap.size ≤ q) (wW cA cL h0 q1 q2 q3 q4 q5 q6 g0 g1 g2 g3 g4 g5 g6 g7 qo (st') (pl') (tk') (wd') (er') (mrm') (mfl') (mus') (mlg') (mse') (mwe') (mwh') (nx') (md') (mth') (mnx') (mmd') (mwr') (ou')) → va_S (fun q => s.heap.size ≤ q) s.heap H locs → lv_has ls 8 [(0, .ref b), (1, .ref h0), (2, .ref g0), (3, .ref qo), (4, .int v4)] → W p l e room_1 s m args below meth c H locs (kc + 1) (ks + 6) Q (F0 m 833 ls [])) (H : Heap) (locs : List Loc) (ls : Array Slot) (hP : va_P (dC, dI) vwCl (wW cA cL h0 q1 q2 q3 q4 q5 q6 g0 g1 g2 g3 g4 g5 g6 g7 qo st pl tk wd er mrm mfl mus mlg mse mwe mwh nx md mth mnx mmd mwr ou) H) (hD : va_D (fun q => s.heap.size ≤ q) (wW cA cL h0 q1 q2 q3 q4 q5 q6 g0 g1 g2 g3 g4 g5 g6 g7 qo st pl tk wd er mrm mfl mus mlg mse mwe mwh nx md mth mnx mmd mwr ou)) (hS : va_S (fun q => s.heap.size ≤ q) s.heap H locs) (hl : lv_has ls 8 [(0, .ref b), (1, .ref h0), (2, .ref g0), (3, .ref qo), (4, .int v4)]) : W p l e room_1 s m args below meth c H locs kc ks Q (F0 m 164 ls []) := by
  have hK1 : va_K (dC, dI) vwCl [(cA, .int)] s := hK.sub [0] rfl
  have hA : ∀ q : Nat, s.heap.size ≤ q → s.heap.size ≤ q := fun _ h => h
  have J217 : ∀ (H : Heap) (locs : List Loc) (ls : Array Slot) (st : Nat → Int32) (pl : Nat → Int32) (tk : Nat → Int32) (wd : Nat → Int32) (er : Nat → Int32) (mrm : Nat → Int32) (mfl : Nat → Int32) (mus : Nat → Int32) (mlg : Nat → Int32) (mse : Nat → Int32) (mwe : Nat → Int32) (mwh : Nat → Int32) (nx : Int32) (md : Int32) (mth : Int32) (mnx : Int32) (mmd : Int32) (mwr : Int32) (ou : Nat → Int64), va_P (dC, dI) vwCl (wW cA cL h0 q1 q2 q3 q4 q5 q6 g0 g1 g2 g3 g4 g5 g6 g7 qo st pl tk wd er mrm mfl mus mlg mse mwe mwh nx md mth mnx mmd mwr ou) H → va_D (fun q => s.heap.size ≤ q) (wW cA cL h0 q1 q2 q3 q4 q5 q6 g0 g1 g2 g3 g4 g5 g6 g7 qo st pl tk wd er mrm mfl mus mlg mse mwe mwh nx md mth mnx mmd mwr ou) → va_S (fun q => s.heap.size ≤ q) s.heap H locs → lv_has ls 8 [(0, .ref b), (1, .ref h0), (2, .ref g0), (3, .ref qo), (4, .int v4)] → f_W164_J217 L xs v4 st pl tk wd er mrm mfl mus mlg mse mwe mwh nx md mth mnx mmd mwr ou = some (st', pl', tk', wd', er', mrm', mfl', mus', mlg', mse', mwe', mwh', nx', md', mth', mnx', mmd', mwr', ou') → W p l e room_1 s m args below meth c H locs (kc + 1) (ks + 6) Q (F0 m 217 ls []) := by
    intro H locs ls st pl tk wd er mrm mfl mus mlg mse mwe mwh nx md mth mnx mmd mwr ou hP hD hS hl hF
    have hF : (some (st, pl, tk, wd, er, mrm, mfl, mus, mlg, mse, mwe, mwh, nx, md, mth, mnx, mmd, mwr, ou)) = some (st', pl', tk', wd', er', mrm', mfl', mus', mlg', mse', mwe', mwh', nx', md', mth', mnx', mmd', mwr', ou') := hF
    refine lv_goto hx hb d_L_law_217 (tgt := 833) (by decide) ?_
    cases hF
    exact hnext _ _ _ hP hD hS (lv_sub hl [0, 1, 2, 3, 4] rfl)
  have hF : (if (v4 + (1 : Int32)) < 0 ∨ L ≤ (v4 + (1 : Int32)).toNatClampNeg then none else (f_L_decode md ou (xs (v4 + (1 : Int32)).toNatClampNeg)).bind fun (r172, md172, ou172) => if (v4 + (1 : Int32)) < 0 ∨ L ≤ (v4 + (1 : Int32)).toNatClampNeg then none else (f_R_decode mrm mth mmd mwr (xs (v4 + (1 : Int32)).toNatClampNeg)).bind fun (r184, mth184, mmd184, mwr184) => (f_R_thrown mth184).bind fun r190 => if r190 = r172 then (if r172 = 0 then (if (0 : Int32) < 0 ∨ 1 ≤ (0 : Int32).toNatClampNeg then none else if (lg_cmp (ou172 (0 : Int32).toNatClampNeg) r184.toInt64) = 0 then (f_W164_J217 L xs v4 st pl tk wd er mrm mfl mus mlg mse mwe mwh nx md172 mth184 mnx mmd184 mwr184 ou172) else (none)) else (f_W164_J217 L xs v4 st pl tk wd er mrm mfl mus mlg mse mwe mwh nx md172 mth184 mnx mmd184 mwr184 ou172)) else (none)) = some (st', pl', tk', wd', er', mrm', mfl', mus', mlg', mse', mwe', mwh', nx', md', mth', mnx', mmd', mwr', ou') := hF
  refine lv_aload_n hx hb d_L_law_164 rfl (lv_at hl 1 rfl) ?_
  refine lv_aload_n hx hb d_L_law_165 rfl (lv_at hl 0 rfl) ?_
  refine lv_iload hx hb d_L_law_166 (lv_at hl 4 rfl) ?_
  refine lv_iconst (v := (1 : Int32)) hx hb d_L_law_168 (by decide) ?_
  refine lv_iadd hx hb d_L_law_169 ?_
  obtain ⟨hi170, hF⟩ := tx_g hF
  refine va_sld hx hb hX hbl (Nat.not_le.mpr hbl) hS hi170 d_L_law_170 ?_
  refine lv_aload_n hx hb d_L_law_171 rfl (lv_at hl 3 rfl) ?_
  obtain ⟨⟨r172, md172, ou172⟩, hc172, hF⟩ := tx_b hF
  try dsimp only at hF
  have hPc := hP.sub (ws' := (wH cA cL h0 q1 q2 q3 q4 q5 q6 qo st pl tk wd er nx md ou)) [0, 1, 2, 3, 4, 5, 6, 15] rfl
  have hDc := hD.sub (ws' := (wH cA cL h0 q1 q2 q3 q4 q5 q6 qo st pl tk wd er nx md ou)) [0, 1, 2, 3, 4, 5, 6, 15] (by decide) rfl
  have hFc := va_free (wc := (wH cA cL h0 q1 q2 q3 q4 q5 q6 qo st pl tk wd er nx md ou)) hD hS hA [0, 1, 2, 3, 4, 5, 6, 15] rfl
  refine va_calli (tx_runSW (n := 3) (As := [.ref h0, .int (xs (v4 + (1 : Int32)).toNatClampNeg), .ref qo]) (rest := []) ⟨hx, hb, hml, hown, hts⟩ (c_L_decode l dC dI cA cL h0 q1 q2 q3 q4 q5 q6 qo H.size st pl tk wd er nx md ou (xs (v4 + (1 : Int32)).toNatClampNeg) r172 md172 ou172 hc172 hfl) (tg_S bq_1_215 bq_1_216 bq_1_0 bq_1_217) rfl rfl rfl (by decide +kernel) ⟨Nat.le_of_ble_eq_true rfl, Nat.le_of_ble_eq_true rfl⟩ ⟨tx_blH, tx_preH hPc hDc hK hNw (tx_E_up hE hS)⟩ rfl rfl hl.1 rfl (lv_room (Nat.le_of_ble_eq_true rfl)) d_L_law_172 ⟨hkc, hks⟩) hS (fun q _ h => hFc q h) hFc (fun zz _u t H locs ht hvm hw hB hz1 hk1 hS => ?_)
  subst hw
  obtain ⟨hP1, hD1⟩ := hB
  rw [ht] at hP1
  obtain ⟨hP2, hD2⟩ := va_join (wr := [(g0, .inr (2, [.int mth, .ref g1, .ref g2, .ref g3, .ref g4, .ref g5, .ref g6, .ref g7, .int mnx, .int mmd, .int mwr])), (g1, .inl (cA, 31, .inl mrm)), (g2, .inl (cA, 80, .inl mfl)), (g3, .inl (cA, 16, .inl mus)), (g4, .inl (cA, 16, .inl mlg)), (g5, .inl (cA, 16, .inl mse)), (g6, .inl (cA, 4, .inl mwe)), (g7, .inl (cA, 8, .inl mwh))]) (w1 := (wH cA cL h0 q1 q2 q3 q4 q5 q6 qo st pl tk wd er nx md172 ou172)) hP hD [0, 1, 2, 3, 4, 5, 6, 15] [7, 8, 9, 10, 11, 12, 13, 14] rfl rfl (by decide) (by decide) hk1 hFc hP1 hD1
  have hP := hP2.sub (ws' := (wW cA cL h0 q1 q2 q3 q4 q5 q6 g0 g1 g2 g3 g4 g5 g6 g7 qo st pl tk wd er mrm mfl mus mlg mse mwe mwh nx md172 mth mnx mmd mwr ou172)) [8, 9, 10, 11, 12, 13, 14, 0, 1, 2, 3, 4, 5, 6, 7, 15] rfl
  have hD := hD2.sub (ws' := (wW cA cL h0 q1 q2 q3 q4 q5 q6 g0 g1 g2 g3 g4 g5 g6 g7 qo st pl tk wd er mrm mfl mus mlg mse mwe mwh nx md172 mth mnx mmd mwr ou172)) [8, 9, 10, 11, 12, 13, 14, 0, 1, 2, 3, 4, 5, 6, 7, 15] (by decide) rfl
  refine lv_istore hx hb d_L_law_175 hl (by decide) rfl (fun ls hl => ?_)
  have hl : lv_has ls 8 [(5, .int r172), (0, .ref b), (1, .ref h0), (2, .ref g0), (3, .ref qo), (4, .int v4)] := hl
  refine lv_aload_n hx hb d_L_law_177 rfl (lv_at hl 3 rfl) ?_
  refine lv_aload_n hx hb d_L_law_178 rfl (lv_at hl 1 rfl) ?_
  refine lv_iload hx hb d_L_law_179 (lv_at hl 5 rfl) ?_
  refine lv_iconst (v := (1 : Int32)) hx hb d_L_law_181 (by decide) ?_
  refine lv_iadd hx hb d_L_law_182 ?_
  obtain ⟨hi183, hF⟩ := tx_g hF
  refine va_sld hx hb hX hbl (Nat.not_le.mpr hbl) hS hi183 d_L_law_183 ?_
  obtain ⟨⟨r184, mth184, mmd184, mwr184⟩, hc184, hF⟩ := tx_b hF
  try dsimp only at hF
  have hPc := hP.sub (ws' := (wR cA g0 g1 g2 g3 g4 g5 g6 g7 mrm mfl mus mlg mse mwe mwh mth mnx mmd mwr)) [7, 8, 9, 10, 11, 12, 13, 14] rfl
  have hDc := hD.sub (ws' := (wR cA g0 g1 g2 g3 g4 g5 g6 g7 mrm mfl mus mlg mse mwe mwh mth mnx mmd mwr)) [7, 8, 9, 10, 11, 12, 13, 14] (by decide) rfl
  have hFc := va_free (wc := (wR cA g0 g1 g2 g3 g4 g5 g6 g7 mrm mfl mus mlg mse mwe mwh mth mnx mmd mwr)) hD hS hA [7, 8, 9, 10, 11, 12, 13, 14] rfl
  refine va_calli (va_runV (As := [.int (xs (v4 + (1 : Int32)).toNatClampNeg)]) (rest := []) ⟨hx, hb, hml, hown, hts⟩ (c_R_decode l dC dI cA g0 g1 g2 g3 g4 g5 g6 g7 H.size mrm mfl mus mlg mse mwe mwh mth mnx mmd mwr (xs (v4 + (1 : Int32)).toNatClampNeg) r184 mth184 mmd184 mwr184 hc184) (cwV 1 hts (tg_V bq_3_11 bq_3_12 bq_3_13 bq_1_4 bq_3_14) rfl rfl rfl (by decide +kernel) ⟨Nat.le_of_ble_eq_true rfl, Nat.le_of_ble_eq_true rfl⟩) ⟨tx_blW, (va_recv (ci := 2) (q0 := 7) hK hP rfl rfl), tx_preW hPc hDc hK1 hNw⟩ rfl rfl hl.1 rfl (lv_room (Nat.le_of_ble_eq_true rfl)) d_L_law_184 ⟨hkc, hks⟩) hS (fun q _ h => hFc q h) hFc (fun zz _u t H locs ht hvm hw hB hz1 hk1 hS => ?_)
  subst hw
  obtain ⟨hP1, hD1⟩ := hB
  rw [ht] at hP1
  obtain ⟨hP2, hD2⟩ := va_join (wr := [(h0, .inr (1, [.ref q1, .ref q2, .ref q3, .ref q4, .int nx, .int md172])), (q1, .inr (0, [.ref q5, .ref q6])), (q2, .inl (cA, 16, .inl st)), (q3, .inl (cA, 8, .inl pl)), (q4, .inl (cA, 8, .inl tk)), (q5, .inl (cA, 80, .inl wd)), (q6, .inl (cA, 4, .inl er)), (qo, .inl (cL, 1, .inr (.inl ou172)))]) (w1 := (wR cA g0 g1 g2 g3 g4 g5 g6 g7 mrm mfl mus mlg mse mwe mwh mth184 mnx mmd184 mwr184)) hP hD [7, 8, 9, 10, 11, 12, 13, 14] [0, 1, 2, 3, 4, 5, 6, 15] rfl rfl (by decide) (by decide) hk1 hFc hP1 hD1
  have hP := hP2.sub (ws' := (wW cA cL h0 q1 q2 q3 q4 q5 q6 g0 g1 g2 g3 g4 g5 g6 g7 qo st pl tk wd er mrm mfl mus mlg mse mwe mwh nx md172 mth184 mnx mmd184 mwr184 ou172)) [0, 1, 2, 3, 4, 5, 6, 8, 9, 10, 11, 12, 13, 14, 15, 7] rfl
  have hD := hD2.sub (ws' := (wW cA cL h0 q1 q2 q3 q4 q5 q6 g0 g1 g2 g3 g4 g5 g6 g7 qo st pl tk wd er mrm mfl mus mlg mse mwe mwh nx md172 mth184 mnx mmd184 mwr184 ou172)) [0, 1, 2, 3, 4, 5, 6, 8, 9, 10, 11, 12, 13, 14, 15, 7] (by decide) rfl
  refine lv_istore hx hb d_L_law_187 hl (by decide) rfl (fun ls hl => ?_)
  have hl : lv_has ls 8 [(6, .int r184), (5, .int r172), (0, .ref b), (1, .ref h0), (2, .ref g0), (3, .ref qo), (4, .int v4)] := hl
  refine lv_aload_n hx hb d_L_law_189 rfl (lv_at hl 4 rfl) ?_
  obtain ⟨r190, hc190, hF⟩ := tx_b hF
  refine vp_callSi (W.runV (As := []) (rest := []) ⟨hx, hb, hml, hown, hts⟩ (c_R_thrown l dC dI cA g0 g1 g2 g3 g4 g5 g6 g7 mrm mfl mus mlg mse mwe mwh mth184 mnx mmd184 mwr184 r190 hc190) (cwV 0 hts (tg_V bq_2_226 bq_2_227 bq_2_228 bq_1_4 bq_2_229) rfl rfl rfl (by decide +kernel) ⟨Nat.le_of_ble_eq_true rfl, Nat.le_of_ble_eq_true rfl⟩) ⟨tx_blR, (va_recv (ci := 2) (q0 := 7) hK hP rfl rfl), tx_preR (hP.sub (ws' := (wR cA g0 g1 g2 g3 g4 g5 g6 g7 mrm mfl mus mlg mse mwe mwh mth184 mnx mmd184 mwr184)) [7, 8, 9, 10, 11, 12, 13, 14] rfl) hK1⟩ rfl rfl hl.1 rfl (lv_room (Nat.le_of_ble_eq_true rfl)) d_L_law_190 ⟨hkc, hks⟩) (fun zz hz => ?_)
  subst hz
  refine lv_iload hx hb d_L_law_193 (lv_at hl 1 rfl) ?_
  refine lv_icmp_eq hx hb d_L_law_195 (tgt := 200) (by decide) (fun h195 => ?_) (fun h195 => ?_)
  · have hF := tx_t h195 hF
    refine lv_iload hx hb d_L_law_200 (lv_at hl 1 rfl) ?_
    refine lv_if_ne hx hb d_L_law_202 (tgt := 217) (by decide) (fun h202 => ?_) (fun h202 => ?_)
    · have hF := tx_f h202 hF
      exact J217 _ _ _ st pl tk wd er mrm mfl mus mlg mse mwe mwh nx md172 mth184 mnx mmd184 mwr184 ou172 hP hD hS (lv_sub hl [2, 3, 4, 5, 6] rfl) hF
    · have hF := tx_t h202 hF
      refine lv_aload_n hx hb d_L_law_205 rfl (lv_at hl 5 rfl) ?_
      refine lv_iconst (v := (0 : Int32)) hx hb d_L_law_206 (by decide) ?_
      obtain ⟨hi207, hF⟩ := tx_g hF
      refine va_lald hx hb hK hP 15 1 rfl rfl hi207 d_L_law_207 ?_
      refine lv_iload hx hb d_L_law_208 (lv_at hl 0 rfl) ?_
      refine lv_i2l hx hb d_L_law_210 rfl ?_
      refine W.lcmp hx hb d_L_law_211 ?_
      refine lv_if_eq hx hb d_L_law_212 (tgt := 217) (by decide) (fun h212 => ?_) (fun h212 => ?_)
      · have hF := tx_t h212 hF
        exact J217 _ _ _ st pl tk wd er mrm mfl mus mlg mse mwe mwh nx md172 mth184 mnx mmd184 mwr184 ou172 hP hD hS (lv_sub hl [2, 3, 4, 5, 6] rfl) hF
      · have hF := tx_f h212 hF
        refine lv_iconst (v := (0 : Int32)) hx hb d_L_law_215 (by decide) ?_
        cases hF
  · have hF := tx_f h195 hF
    refine lv_iconst (v := (0 : Int32)) hx hb d_L_law_198 (by decide) ?_
    cases hF
def f_W220 (L : Nat) (xs : Nat → Int32) (st : Nat → Int32) (pl : Nat → Int32) (tk : Nat → Int32) (wd : Nat → Int32) (er : Nat → Int32) (mrm : Nat → Int32) (mfl : Nat → Int32) (mus : Nat → Int32) (mlg : Nat → Int32) (mse : Nat → Int32) (mwe : Nat → Int32) (mwh : Nat → Int32) (nx : Int32) (md : Int32) (mth : Int32) (mnx : Int32) (mmd : Int32) (mwr : Int32) (ou : Nat → Int64) (v4 : Int32) : Option ((Nat → Int32) × (Nat → Int32) × (Nat → Int32) × (Nat → Int32) × (Nat → Int32) × (Nat → Int32) × (Nat → Int32) × (Nat → Int32) × (Nat → Int32) × (Nat → Int32) × (Nat → Int32) × (Nat → Int32) × Int32 × Int32 × Int32 × Int32 × Int32 × Int32 × (Nat → Int64)) := (f_F_mended md).bind fun r221 => (f_R_mended mth mmd).bind fun (r225, mth225) => if r221 = r225 then (some (st, pl, tk, wd, er, mrm, mfl, mus, mlg, mse, mwe, mwh, nx, md, mth225, mnx, mmd, mwr, ou)) else (none)
set_option maxHeartbeats 4000000 in
set_option maxRecDepth 100000 in
theorem cs_220 {p : Program} {l : Launch} {e : Env} {s : State} {m : MethodId} {args : Array Value} {below : List Frame} {meth : Method} {c : Code} {Q : State → Prop} {c1 : Cond} (hx : p.tables.exec = Jvm.exec) (hb : c.code = b_L_law) (hml : c.maxLocals = 8) (hown : s.vm.findClass "FlashStoreLaw" = some m.cls) (hts : ∀ w ∈ c1 :: bw, w.before args s = true) (hfl : l.flags = pinnedFlags ++ [noTraceFlag]) {dC : Nat → ClassId} {dI : Nat → Nat → Nat} {cA cL : ClassId} (hK : va_K (dC, dI) vwCl [(cA, .int), (cL, .long)] s) (hNw : va_Nw tx_nest s) (hE : tx_E s) {b L : Nat} {xs : Nat → Int32} (hX : va_X b L xs s s.heap) (hbl : b < s.heap.size) (h0 q1 q2 q3 q4 q5 q6 g0 g1 g2 g3 g4 g5 g6 g7 qo : Nat) (st pl tk wd er mrm mfl mus mlg mse mwe mwh : Nat → Int32) (nx md mth mnx mmd mwr : Int32) (ou : Nat → Int64) (v4 : Int32) (kc ks : Nat) (hkc : kc + 1 ≤ 601024) (hks : ks + 6 ≤ 7293034) (st' : Nat → Int32) (pl' : Nat → Int32) (tk' : Nat → Int32) (wd' : Nat → Int32) (er' : Nat → Int32) (mrm' : Nat → Int32) (mfl' : Nat → Int32) (mus' : Nat → Int32) (mlg' : Nat → Int32) (mse' : Nat → Int32) (mwe' : Nat → Int32) (mwh' : Nat → Int32) (nx' : Int32) (md' : Int32) (mth' : Int32) (mnx' : Int32) (mmd' : Int32) (mwr' : Int32) (ou' : Nat → Int64) (hF : f_W220 L xs st pl tk wd er mrm mfl mus mlg mse mwe mwh nx md mth mnx mmd mwr ou v4 = some (st', pl', tk', wd', er', mrm', mfl', mus', mlg', mse', mwe', mwh', nx', md', mth', mnx', mmd', mwr', ou')) (hnext : ∀ (H : Heap) (locs : List Loc) (ls : Array Slot), va_P (dC, dI) vwCl (wW cA cL h0 q1 q2 q3 q4 q5 q6 g0 g1 g2 g3 g4 g5 g6 g7 qo (st') (pl') (tk') (wd') (er') (mrm') (mfl') (mus') (mlg') (mse') (mwe') (mwh') (nx') (md') (mth') (mnx') (mmd') (mwr') (ou')) H → va_D (fun q => s.heap.size ≤ q) (wW cA cL h0 q1 q2 q3 q4 q5 q6 g0 g1 g2 g3 g4 g5 g6 g7 qo (st') (pl') (tk') (wd') (er') (mrm') (mfl') (mus') (mlg') (mse') (mwe') (mwh') (nx') (md') (mth') (mnx') (mmd') (mwr') (ou')) → va_S (fun q => s.heap.size ≤ q) s.heap H locs → lv_has ls 8 [(0, .ref b), (1, .ref h0), (2, .ref g0), (3, .ref qo), (4, .int v4)] → W p l e room_1 s m args below meth c H locs (kc + 1) (ks + 6) Q (F0 m 833 ls [])) (H : Heap) (locs : List Loc) (ls : Array Slot) (hP : va_P (dC, dI) vwCl (wW cA cL h0 q1 q2 q3 q4 q5 q6 g0 g1 g2 g3 g4 g5 g6 g7 qo st pl tk wd er mrm mfl mus mlg mse mwe mwh nx md mth mnx mmd mwr ou) H) (hD : va_D (fun q => s.heap.size ≤ q) (wW cA cL h0 q1 q2 q3 q4 q5 q6 g0 g1 g2 g3 g4 g5 g6 g7 qo st pl tk wd er mrm mfl mus mlg mse mwe mwh nx md mth mnx mmd mwr ou)) (hS : va_S (fun q => s.heap.size ≤ q) s.heap H locs) (hl : lv_has ls 8 [(0, .ref b), (1, .ref h0), (2, .ref g0), (3, .ref qo), (4, .int v4)]) : W p l e room_1 s m args below meth c H locs kc ks Q (F0 m 220 ls []) := by
  have hK1 : va_K (dC, dI) vwCl [(cA, .int)] s := hK.sub [0] rfl
  have hA : ∀ q : Nat, s.heap.size ≤ q → s.heap.size ≤ q := fun _ h => h
  have hF : ((f_F_mended md).bind fun r221 => (f_R_mended mth mmd).bind fun (r225, mth225) => if r221 = r225 then (some (st, pl, tk, wd, er, mrm, mfl, mus, mlg, mse, mwe, mwh, nx, md, mth225, mnx, mmd, mwr, ou)) else (none)) = some (st', pl', tk', wd', er', mrm', mfl', mus', mlg', mse', mwe', mwh', nx', md', mth', mnx', mmd', mwr', ou') := hF
  refine lv_aload_n hx hb d_L_law_220 rfl (lv_at hl 1 rfl) ?_
  obtain ⟨r221, hc221, hF⟩ := tx_b hF
  refine vp_callSi (W.runV (As := []) (rest := []) ⟨hx, hb, hml, hown, hts⟩ (c_F_mended l dC dI cA h0 q1 q2 q3 q4 q5 q6 st pl tk wd er nx md r221 hc221) (cwV 0 hts (tg_V bq_1_60 bq_1_61 bq_1_62 bq_1_1 bq_1_63) rfl rfl rfl (by decide +kernel) ⟨Nat.le_of_ble_eq_true rfl, Nat.le_of_ble_eq_true rfl⟩) ⟨tx_blR, (va_recv (ci := 1) (q0 := 0) hK hP rfl rfl), tx_preR (hP.sub (ws' := (wF cA h0 q1 q2 q3 q4 q5 q6 st pl tk wd er nx md)) [0, 1, 2, 3, 4, 5, 6] rfl) hK1⟩ rfl rfl hl.1 rfl (lv_room (Nat.le_of_ble_eq_true rfl)) d_L_law_221 ⟨Nat.le_of_succ_le hkc, Nat.le_trans (Nat.le_add_right _ 6) hks⟩) (fun zz hz => ?_)
  subst hz
  refine lv_aload_n hx hb d_L_law_224 rfl (lv_at hl 2 rfl) ?_
  obtain ⟨⟨r225, mth225⟩, hc225, hF⟩ := tx_b hF
  try dsimp only at hF
  have hPc := hP.sub (ws' := (wR cA g0 g1 g2 g3 g4 g5 g6 g7 mrm mfl mus mlg mse mwe mwh mth mnx mmd mwr)) [7, 8, 9, 10, 11, 12, 13, 14] rfl
  have hDc := hD.sub (ws' := (wR cA g0 g1 g2 g3 g4 g5 g6 g7 mrm mfl mus mlg mse mwe mwh mth mnx mmd mwr)) [7, 8, 9, 10, 11, 12, 13, 14] (by decide) rfl
  have hFc := va_free (wc := (wR cA g0 g1 g2 g3 g4 g5 g6 g7 mrm mfl mus mlg mse mwe mwh mth mnx mmd mwr)) hD hS hA [7, 8, 9, 10, 11, 12, 13, 14] rfl
  refine va_calli (va_runV (As := []) (rest := [.int r221]) ⟨hx, hb, hml, hown, hts⟩ (c_R_mended l dC dI cA g0 g1 g2 g3 g4 g5 g6 g7 H.size mrm mfl mus mlg mse mwe mwh mth mnx mmd mwr r225 mth225 hc225) (cwV 0 hts (tg_V bq_3_19 bq_3_20 bq_3_21 bq_1_4 bq_3_22) rfl rfl rfl (by decide +kernel) ⟨Nat.le_of_ble_eq_true rfl, Nat.le_of_ble_eq_true rfl⟩) ⟨tx_blW, (va_recv (ci := 2) (q0 := 7) hK hP rfl rfl), tx_preW hPc hDc hK1 hNw⟩ rfl rfl hl.1 rfl (lv_room (Nat.le_of_ble_eq_true rfl)) d_L_law_225 ⟨Nat.le_of_succ_le hkc, Nat.le_trans (Nat.le_add_right _ 6) hks⟩) hS (fun q _ h => hFc q h) hFc (fun zz _u t H locs ht hvm hw hB hz1 hk1 hS => ?_)
  subst hw
  obtain ⟨hP1, hD1⟩ := hB
  rw [ht] at hP1
  obtain ⟨hP2, hD2⟩ := va_join (wr := [(h0, .inr (1, [.ref q1, .ref q2, .ref q3, .ref q4, .int nx, .int md])), (q1, .inr (0, [.ref q5, .ref q6])), (q2, .inl (cA, 16, .inl st)), (q3, .inl (cA, 8, .inl pl)), (q4, .inl (cA, 8, .inl tk)), (q5, .inl (cA, 80, .inl wd)), (q6, .inl (cA, 4, .inl er)), (qo, .inl (cL, 1, .inr (.inl ou)))]) (w1 := (wR cA g0 g1 g2 g3 g4 g5 g6 g7 mrm mfl mus mlg mse mwe mwh mth225 mnx mmd mwr)) hP hD [7, 8, 9, 10, 11, 12, 13, 14] [0, 1, 2, 3, 4, 5, 6, 15] rfl rfl (by decide) (by decide) hk1 hFc hP1 hD1
  have hP := hP2.sub (ws' := (wW cA cL h0 q1 q2 q3 q4 q5 q6 g0 g1 g2 g3 g4 g5 g6 g7 qo st pl tk wd er mrm mfl mus mlg mse mwe mwh nx md mth225 mnx mmd mwr ou)) [0, 1, 2, 3, 4, 5, 6, 8, 9, 10, 11, 12, 13, 14, 15, 7] rfl
  have hD := hD2.sub (ws' := (wW cA cL h0 q1 q2 q3 q4 q5 q6 g0 g1 g2 g3 g4 g5 g6 g7 qo st pl tk wd er mrm mfl mus mlg mse mwe mwh nx md mth225 mnx mmd mwr ou)) [0, 1, 2, 3, 4, 5, 6, 8, 9, 10, 11, 12, 13, 14, 15, 7] (by decide) rfl
  refine lv_icmp_eq hx hb d_L_law_228 (tgt := 833) (by decide) (fun h228 => ?_) (fun h228 => ?_)
  · have hF := tx_t h228 hF
    cases hF
    refine W.widen (k := kc + 1) (n := ks + 6) (Nat.le_add_right _ _) (Nat.le_add_right _ _) ?_
    exact hnext _ _ _ hP hD hS (lv_sub hl [0, 1, 2, 3, 4] rfl)
  · have hF := tx_f h228 hF
    refine lv_iconst (v := (0 : Int32)) hx hb d_L_law_231 (by decide) ?_
    cases hF
def f_W233 (L : Nat) (xs : Nat → Int32) (st : Nat → Int32) (pl : Nat → Int32) (tk : Nat → Int32) (wd : Nat → Int32) (er : Nat → Int32) (mrm : Nat → Int32) (mfl : Nat → Int32) (mus : Nat → Int32) (mlg : Nat → Int32) (mse : Nat → Int32) (mwe : Nat → Int32) (mwh : Nat → Int32) (nx : Int32) (md : Int32) (mth : Int32) (mnx : Int32) (mmd : Int32) (mwr : Int32) (ou : Nat → Int64) (v4 : Int32) : Option ((Nat → Int32) × (Nat → Int32) × (Nat → Int32) × (Nat → Int32) × (Nat → Int32) × (Nat → Int32) × (Nat → Int32) × (Nat → Int32) × (Nat → Int32) × (Nat → Int32) × (Nat → Int32) × (Nat → Int32) × Int32 × Int32 × Int32 × Int32 × Int32 × Int32 × (Nat → Int64)) := if (v4 + (1 : Int32)) < 0 ∨ L ≤ (v4 + (1 : Int32)).toNatClampNeg then none else if (v4 + (2 : Int32)) < 0 ∨ L ≤ (v4 + (2 : Int32)).toNatClampNeg then none else if (v4 + (3 : Int32)) < 0 ∨ L ≤ (v4 + (3 : Int32)).toNatClampNeg then none else (f_L_write st pl wd er nx (xs (v4 + (1 : Int32)).toNatClampNeg) ((((xs (v4 + (2 : Int32)).toNatClampNeg).toInt64) <<< ((32 : Int32).toInt64 &&& 63)) ||| (((xs (v4 + (3 : Int32)).toNatClampNeg).toInt64) &&& (4294967295 : Int64)))).bind fun (r262, st262, pl262, wd262, er262, nx262) => if (v4 + (1 : Int32)) < 0 ∨ L ≤ (v4 + (1 : Int32)).toNatClampNeg then none else if (v4 + (2 : Int32)) < 0 ∨ L ≤ (v4 + (2 : Int32)).toNatClampNeg then none else if (v4 + (3 : Int32)) < 0 ∨ L ≤ (v4 + (3 : Int32)).toNatClampNeg then none else (f_R_write mrm mfl mus mlg mse mwe mwh mth mnx mwr (xs (v4 + (1 : Int32)).toNatClampNeg) ((((xs (v4 + (2 : Int32)).toNatClampNeg).toInt64) <<< ((32 : Int32).toInt64 &&& 63)) ||| (((xs (v4 + (3 : Int32)).toNatClampNeg).toInt64) &&& (4294967295 : Int64)))).bind fun (mfl296, mus296, mlg296, mse296, mwe296, mwh296, mth296, mnx296, mwr296) => (f_R_thrown mth296).bind fun r300 => if r300 = r262 then (some (st262, pl262, tk, wd262, er262, mrm, mfl296, mus296, mlg296, mse296, mwe296, mwh296, nx262, md, mth296, mnx296, mmd, mwr296, ou)) else (none)
set_option maxHeartbeats 4000000 in
set_option maxRecDepth 100000 in
theorem cs_233 {p : Program} {l : Launch} {e : Env} {s : State} {m : MethodId} {args : Array Value} {below : List Frame} {meth : Method} {c : Code} {Q : State → Prop} {c1 : Cond} (hx : p.tables.exec = Jvm.exec) (hb : c.code = b_L_law) (hml : c.maxLocals = 8) (hown : s.vm.findClass "FlashStoreLaw" = some m.cls) (hts : ∀ w ∈ c1 :: bw, w.before args s = true) (hfl : l.flags = pinnedFlags ++ [noTraceFlag]) {dC : Nat → ClassId} {dI : Nat → Nat → Nat} {cA cL : ClassId} (hK : va_K (dC, dI) vwCl [(cA, .int), (cL, .long)] s) (hNw : va_Nw tx_nest s) (hE : tx_E s) {b L : Nat} {xs : Nat → Int32} (hX : va_X b L xs s s.heap) (hbl : b < s.heap.size) (h0 q1 q2 q3 q4 q5 q6 g0 g1 g2 g3 g4 g5 g6 g7 qo : Nat) (st pl tk wd er mrm mfl mus mlg mse mwe mwh : Nat → Int32) (nx md mth mnx mmd mwr : Int32) (ou : Nat → Int64) (v4 : Int32) (kc ks : Nat) (hkc : kc + 1 ≤ 601024) (hks : ks + 6 ≤ 7293034) (st' : Nat → Int32) (pl' : Nat → Int32) (tk' : Nat → Int32) (wd' : Nat → Int32) (er' : Nat → Int32) (mrm' : Nat → Int32) (mfl' : Nat → Int32) (mus' : Nat → Int32) (mlg' : Nat → Int32) (mse' : Nat → Int32) (mwe' : Nat → Int32) (mwh' : Nat → Int32) (nx' : Int32) (md' : Int32) (mth' : Int32) (mnx' : Int32) (mmd' : Int32) (mwr' : Int32) (ou' : Nat → Int64) (hF : f_W233 L xs st pl tk wd er mrm mfl mus mlg mse mwe mwh nx md mth mnx mmd mwr ou v4 = some (st', pl', tk', wd', er', mrm', mfl', mus', mlg', mse', mwe', mwh', nx', md', mth', mnx', mmd', mwr', ou')) (hnext : ∀ (H : Heap) (locs : List Loc) (ls : Array Slot), va_P (dC, dI) vwCl (wW cA cL h0 q1 q2 q3 q4 q5 q6 g0 g1 g2 g3 g4 g5 g6 g7 qo (st') (pl') (tk') (wd') (er') (mrm') (mfl') (mus') (mlg') (mse') (mwe') (mwh') (nx') (md') (mth') (mnx') (mmd') (mwr') (ou')) H → va_D (fun q => s.heap.size ≤ q) (wW cA cL h0 q1 q2 q3 q4 q5 q6 g0 g1 g2 g3 g4 g5 g6 g7 qo (st') (pl') (tk') (wd') (er') (mrm') (mfl') (mus') (mlg') (mse') (mwe') (mwh') (nx') (md') (mth') (mnx') (mmd') (mwr') (ou')) → va_S (fun q => s.heap.size ≤ q) s.heap H locs → lv_has ls 8 [(0, .ref b), (1, .ref h0), (2, .ref g0), (3, .ref qo), (4, .int v4)] → W p l e room_1 s m args below meth c H locs (kc + 1) (ks + 6) Q (F0 m 833 ls [])) (H : Heap) (locs : List Loc) (ls : Array Slot) (hP : va_P (dC, dI) vwCl (wW cA cL h0 q1 q2 q3 q4 q5 q6 g0 g1 g2 g3 g4 g5 g6 g7 qo st pl tk wd er mrm mfl mus mlg mse mwe mwh nx md mth mnx mmd mwr ou) H) (hD : va_D (fun q => s.heap.size ≤ q) (wW cA cL h0 q1 q2 q3 q4 q5 q6 g0 g1 g2 g3 g4 g5 g6 g7 qo st pl tk wd er mrm mfl mus mlg mse mwe mwh nx md mth mnx mmd mwr ou)) (hS : va_S (fun q => s.heap.size ≤ q) s.heap H locs) (hl : lv_has ls 8 [(0, .ref b), (1, .ref h0), (2, .ref g0), (3, .ref qo), (4, .int v4)]) : W p l e room_1 s m args below meth c H locs kc ks Q (F0 m 233 ls []) := by
  have hK1 : va_K (dC, dI) vwCl [(cA, .int)] s := hK.sub [0] rfl
  have hA : ∀ q : Nat, s.heap.size ≤ q → s.heap.size ≤ q := fun _ h => h
  have w0 := (hts _ (List.mem_cons_of_mem _ bq_3_115))
  have hF : (if (v4 + (1 : Int32)) < 0 ∨ L ≤ (v4 + (1 : Int32)).toNatClampNeg then none else if (v4 + (2 : Int32)) < 0 ∨ L ≤ (v4 + (2 : Int32)).toNatClampNeg then none else if (v4 + (3 : Int32)) < 0 ∨ L ≤ (v4 + (3 : Int32)).toNatClampNeg then none else (f_L_write st pl wd er nx (xs (v4 + (1 : Int32)).toNatClampNeg) ((((xs (v4 + (2 : Int32)).toNatClampNeg).toInt64) <<< ((32 : Int32).toInt64 &&& 63)) ||| (((xs (v4 + (3 : Int32)).toNatClampNeg).toInt64) &&& (4294967295 : Int64)))).bind fun (r262, st262, pl262, wd262, er262, nx262) => if (v4 + (1 : Int32)) < 0 ∨ L ≤ (v4 + (1 : Int32)).toNatClampNeg then none else if (v4 + (2 : Int32)) < 0 ∨ L ≤ (v4 + (2 : Int32)).toNatClampNeg then none else if (v4 + (3 : Int32)) < 0 ∨ L ≤ (v4 + (3 : Int32)).toNatClampNeg then none else (f_R_write mrm mfl mus mlg mse mwe mwh mth mnx mwr (xs (v4 + (1 : Int32)).toNatClampNeg) ((((xs (v4 + (2 : Int32)).toNatClampNeg).toInt64) <<< ((32 : Int32).toInt64 &&& 63)) ||| (((xs (v4 + (3 : Int32)).toNatClampNeg).toInt64) &&& (4294967295 : Int64)))).bind fun (mfl296, mus296, mlg296, mse296, mwe296, mwh296, mth296, mnx296, mwr296) => (f_R_thrown mth296).bind fun r300 => if r300 = r262 then (some (st262, pl262, tk, wd262, er262, mrm, mfl296, mus296, mlg296, mse296, mwe296, mwh296, nx262, md, mth296, mnx296, mmd, mwr296, ou)) else (none)) = some (st', pl', tk', wd', er', mrm', mfl', mus', mlg', mse', mwe', mwh', nx', md', mth', mnx', mmd', mwr', ou') := hF
  refine lv_aload_n hx hb d_L_law_233 rfl (lv_at hl 1 rfl) ?_
  refine lv_aload_n hx hb d_L_law_234 rfl (lv_at hl 0 rfl) ?_
  refine lv_iload hx hb d_L_law_235 (lv_at hl 4 rfl) ?_
  refine lv_iconst (v := (1 : Int32)) hx hb d_L_law_237 (by decide) ?_
  refine lv_iadd hx hb d_L_law_238 ?_
  obtain ⟨hi239, hF⟩ := tx_g hF
  refine va_sld hx hb hX hbl (Nat.not_le.mpr hbl) hS hi239 d_L_law_239 ?_
  refine lv_aload_n hx hb d_L_law_240 rfl (lv_at hl 0 rfl) ?_
  refine lv_iload hx hb d_L_law_241 (lv_at hl 4 rfl) ?_
  refine lv_iconst (v := (2 : Int32)) hx hb d_L_law_243 (by decide) ?_
  refine lv_iadd hx hb d_L_law_244 ?_
  obtain ⟨hi245, hF⟩ := tx_g hF
  refine va_sld hx hb hX hbl (Nat.not_le.mpr hbl) hS hi245 d_L_law_245 ?_
  refine lv_i2l hx hb d_L_law_246 rfl ?_
  refine lv_bipush (v := (32 : Int32)) hx hb d_L_law_247 (by decide) ?_
  refine lv_lshl hx hb d_L_law_249 rfl ?_
  refine lv_aload_n hx hb d_L_law_250 rfl (lv_at hl 0 rfl) ?_
  refine lv_iload hx hb d_L_law_251 (lv_at hl 4 rfl) ?_
  refine lv_iconst (v := (3 : Int32)) hx hb d_L_law_253 (by decide) ?_
  refine lv_iadd hx hb d_L_law_254 ?_
  obtain ⟨hi255, hF⟩ := tx_g hF
  refine va_sld hx hb hX hbl (Nat.not_le.mpr hbl) hS hi255 d_L_law_255 ?_
  refine lv_i2l hx hb d_L_law_256 rfl ?_
  refine lv_ldc2 hx hb hown w0 d_L_law_257 ?_
  refine lv_land hx hb d_L_law_260 ?_
  refine lv_lor hx hb d_L_law_261 ?_
  obtain ⟨⟨r262, st262, pl262, wd262, er262, nx262⟩, hc262, hF⟩ := tx_b hF
  try dsimp only at hF
  have hPc := hP.sub (ws' := (wH cA cL h0 q1 q2 q3 q4 q5 q6 qo st pl tk wd er nx md ou)) [0, 1, 2, 3, 4, 5, 6, 15] rfl
  have hDc := hD.sub (ws' := (wH cA cL h0 q1 q2 q3 q4 q5 q6 qo st pl tk wd er nx md ou)) [0, 1, 2, 3, 4, 5, 6, 15] (by decide) rfl
  have hFc := va_free (wc := (wH cA cL h0 q1 q2 q3 q4 q5 q6 qo st pl tk wd er nx md ou)) hD hS hA [0, 1, 2, 3, 4, 5, 6, 15] rfl
  refine va_calli (tx_runSW (n := 3) (As := [.ref h0, .int (xs (v4 + (1 : Int32)).toNatClampNeg), .long ((((xs (v4 + (2 : Int32)).toNatClampNeg).toInt64) <<< ((32 : Int32).toInt64 &&& 63)) ||| (((xs (v4 + (3 : Int32)).toNatClampNeg).toInt64) &&& (4294967295 : Int64)))]) (rest := []) ⟨hx, hb, hml, hown, hts⟩ (c_L_write l dC dI cA cL h0 q1 q2 q3 q4 q5 q6 qo H.size st pl tk wd er nx md ou (xs (v4 + (1 : Int32)).toNatClampNeg) ((((xs (v4 + (2 : Int32)).toNatClampNeg).toInt64) <<< ((32 : Int32).toInt64 &&& 63)) ||| (((xs (v4 + (3 : Int32)).toNatClampNeg).toInt64) &&& (4294967295 : Int64))) r262 st262 pl262 wd262 er262 nx262 hc262 hfl) (tg_S bq_2_3 bq_2_4 bq_1_0 bq_2_5) rfl rfl rfl (by decide +kernel) ⟨Nat.le_of_ble_eq_true rfl, Nat.le_of_ble_eq_true rfl⟩ ⟨tx_blH, tx_preH hPc hDc hK hNw (tx_E_up hE hS)⟩ rfl rfl hl.1 rfl (lv_room (Nat.le_of_ble_eq_true rfl)) d_L_law_262 ⟨hkc, hks⟩) hS (fun q _ h => hFc q h) hFc (fun zz _u t H locs ht hvm hw hB hz1 hk1 hS => ?_)
  subst hw
  obtain ⟨hP1, hD1⟩ := hB
  rw [ht] at hP1
  obtain ⟨hP2, hD2⟩ := va_join (wr := [(g0, .inr (2, [.int mth, .ref g1, .ref g2, .ref g3, .ref g4, .ref g5, .ref g6, .ref g7, .int mnx, .int mmd, .int mwr])), (g1, .inl (cA, 31, .inl mrm)), (g2, .inl (cA, 80, .inl mfl)), (g3, .inl (cA, 16, .inl mus)), (g4, .inl (cA, 16, .inl mlg)), (g5, .inl (cA, 16, .inl mse)), (g6, .inl (cA, 4, .inl mwe)), (g7, .inl (cA, 8, .inl mwh))]) (w1 := (wH cA cL h0 q1 q2 q3 q4 q5 q6 qo st262 pl262 tk wd262 er262 nx262 md ou)) hP hD [0, 1, 2, 3, 4, 5, 6, 15] [7, 8, 9, 10, 11, 12, 13, 14] rfl rfl (by decide) (by decide) hk1 hFc hP1 hD1
  have hP := hP2.sub (ws' := (wW cA cL h0 q1 q2 q3 q4 q5 q6 g0 g1 g2 g3 g4 g5 g6 g7 qo st262 pl262 tk wd262 er262 mrm mfl mus mlg mse mwe mwh nx262 md mth mnx mmd mwr ou)) [8, 9, 10, 11, 12, 13, 14, 0, 1, 2, 3, 4, 5, 6, 7, 15] rfl
  have hD := hD2.sub (ws' := (wW cA cL h0 q1 q2 q3 q4 q5 q6 g0 g1 g2 g3 g4 g5 g6 g7 qo st262 pl262 tk wd262 er262 mrm mfl mus mlg mse mwe mwh nx262 md mth mnx mmd mwr ou)) [8, 9, 10, 11, 12, 13, 14, 0, 1, 2, 3, 4, 5, 6, 7, 15] (by decide) rfl
  refine lv_istore hx hb d_L_law_265 hl (by decide) rfl (fun ls hl => ?_)
  have hl : lv_has ls 8 [(5, .int r262), (0, .ref b), (1, .ref h0), (2, .ref g0), (3, .ref qo), (4, .int v4)] := hl
  refine lv_aload_n hx hb d_L_law_267 rfl (lv_at hl 3 rfl) ?_
  refine lv_aload_n hx hb d_L_law_268 rfl (lv_at hl 1 rfl) ?_
  refine lv_iload hx hb d_L_law_269 (lv_at hl 5 rfl) ?_
  refine lv_iconst (v := (1 : Int32)) hx hb d_L_law_271 (by decide) ?_
  refine lv_iadd hx hb d_L_law_272 ?_
  obtain ⟨hi273, hF⟩ := tx_g hF
  refine va_sld hx hb hX hbl (Nat.not_le.mpr hbl) hS hi273 d_L_law_273 ?_
  refine lv_aload_n hx hb d_L_law_274 rfl (lv_at hl 1 rfl) ?_
  refine lv_iload hx hb d_L_law_275 (lv_at hl 5 rfl) ?_
  refine lv_iconst (v := (2 : Int32)) hx hb d_L_law_277 (by decide) ?_
  refine lv_iadd hx hb d_L_law_278 ?_
  obtain ⟨hi279, hF⟩ := tx_g hF
  refine va_sld hx hb hX hbl (Nat.not_le.mpr hbl) hS hi279 d_L_law_279 ?_
  refine lv_i2l hx hb d_L_law_280 rfl ?_
  refine lv_bipush (v := (32 : Int32)) hx hb d_L_law_281 (by decide) ?_
  refine lv_lshl hx hb d_L_law_283 rfl ?_
  refine lv_aload_n hx hb d_L_law_284 rfl (lv_at hl 1 rfl) ?_
  refine lv_iload hx hb d_L_law_285 (lv_at hl 5 rfl) ?_
  refine lv_iconst (v := (3 : Int32)) hx hb d_L_law_287 (by decide) ?_
  refine lv_iadd hx hb d_L_law_288 ?_
  obtain ⟨hi289, hF⟩ := tx_g hF
  refine va_sld hx hb hX hbl (Nat.not_le.mpr hbl) hS hi289 d_L_law_289 ?_
  refine lv_i2l hx hb d_L_law_290 rfl ?_
  refine lv_ldc2 hx hb hown w0 d_L_law_291 ?_
  refine lv_land hx hb d_L_law_294 ?_
  refine lv_lor hx hb d_L_law_295 ?_
  obtain ⟨⟨mfl296, mus296, mlg296, mse296, mwe296, mwh296, mth296, mnx296, mwr296⟩, hc296, hF⟩ := tx_b hF
  try dsimp only at hF
  have hPc := hP.sub (ws' := (wR cA g0 g1 g2 g3 g4 g5 g6 g7 mrm mfl mus mlg mse mwe mwh mth mnx mmd mwr)) [7, 8, 9, 10, 11, 12, 13, 14] rfl
  have hDc := hD.sub (ws' := (wR cA g0 g1 g2 g3 g4 g5 g6 g7 mrm mfl mus mlg mse mwe mwh mth mnx mmd mwr)) [7, 8, 9, 10, 11, 12, 13, 14] (by decide) rfl
  have hFc := va_free (wc := (wR cA g0 g1 g2 g3 g4 g5 g6 g7 mrm mfl mus mlg mse mwe mwh mth mnx mmd mwr)) hD hS hA [7, 8, 9, 10, 11, 12, 13, 14] rfl
  refine va_callv (va_runV (As := [.int (xs (v4 + (1 : Int32)).toNatClampNeg), .long ((((xs (v4 + (2 : Int32)).toNatClampNeg).toInt64) <<< ((32 : Int32).toInt64 &&& 63)) ||| (((xs (v4 + (3 : Int32)).toNatClampNeg).toInt64) &&& (4294967295 : Int64)))]) (rest := []) ⟨hx, hb, hml, hown, hts⟩ (c_R_write l dC dI cA g0 g1 g2 g3 g4 g5 g6 g7 H.size mrm mfl mus mlg mse mwe mwh mth mnx mmd mwr (xs (v4 + (1 : Int32)).toNatClampNeg) ((((xs (v4 + (2 : Int32)).toNatClampNeg).toInt64) <<< ((32 : Int32).toInt64 &&& 63)) ||| (((xs (v4 + (3 : Int32)).toNatClampNeg).toInt64) &&& (4294967295 : Int64))) mfl296 mus296 mlg296 mse296 mwe296 mwh296 mth296 mnx296 mwr296 hc296) (cwV 2 hts (tg_V bq_3_64 bq_3_65 bq_3_66 bq_1_4 bq_3_67) rfl rfl rfl (by decide +kernel) ⟨Nat.le_of_ble_eq_true rfl, Nat.le_of_ble_eq_true rfl⟩) ⟨tx_blW, (va_recv (ci := 2) (q0 := 7) hK hP rfl rfl), tx_preW hPc hDc hK1 hNw⟩ rfl rfl hl.1 rfl (lv_room (Nat.le_of_ble_eq_true rfl)) d_L_law_296 ⟨hkc, hks⟩) hS (fun q _ h => hFc q h) hFc (fun _u t H locs ht hvm hw hB hz1 hk1 hS => ?_)
  obtain ⟨hP1, hD1⟩ := hB
  rw [ht] at hP1
  obtain ⟨hP2, hD2⟩ := va_join (wr := [(h0, .inr (1, [.ref q1, .ref q2, .ref q3, .ref q4, .int nx262, .int md])), (q1, .inr (0, [.ref q5, .ref q6])), (q2, .inl (cA, 16, .inl st262)), (q3, .inl (cA, 8, .inl pl262)), (q4, .inl (cA, 8, .inl tk)), (q5, .inl (cA, 80, .inl wd262)), (q6, .inl (cA, 4, .inl er262)), (qo, .inl (cL, 1, .inr (.inl ou)))]) (w1 := (wR cA g0 g1 g2 g3 g4 g5 g6 g7 mrm mfl296 mus296 mlg296 mse296 mwe296 mwh296 mth296 mnx296 mmd mwr296)) hP hD [7, 8, 9, 10, 11, 12, 13, 14] [0, 1, 2, 3, 4, 5, 6, 15] rfl rfl (by decide) (by decide) hk1 hFc hP1 hD1
  have hP := hP2.sub (ws' := (wW cA cL h0 q1 q2 q3 q4 q5 q6 g0 g1 g2 g3 g4 g5 g6 g7 qo st262 pl262 tk wd262 er262 mrm mfl296 mus296 mlg296 mse296 mwe296 mwh296 nx262 md mth296 mnx296 mmd mwr296 ou)) [0, 1, 2, 3, 4, 5, 6, 8, 9, 10, 11, 12, 13, 14, 15, 7] rfl
  have hD := hD2.sub (ws' := (wW cA cL h0 q1 q2 q3 q4 q5 q6 g0 g1 g2 g3 g4 g5 g6 g7 qo st262 pl262 tk wd262 er262 mrm mfl296 mus296 mlg296 mse296 mwe296 mwh296 nx262 md mth296 mnx296 mmd mwr296 ou)) [0, 1, 2, 3, 4, 5, 6, 8, 9, 10, 11, 12, 13, 14, 15, 7] (by decide) rfl
  refine lv_aload_n hx hb d_L_law_299 rfl (lv_at hl 3 rfl) ?_
  obtain ⟨r300, hc300, hF⟩ := tx_b hF
  refine vp_callSi (W.runV (As := []) (rest := []) ⟨hx, hb, hml, hown, hts⟩ (c_R_thrown l dC dI cA g0 g1 g2 g3 g4 g5 g6 g7 mrm mfl296 mus296 mlg296 mse296 mwe296 mwh296 mth296 mnx296 mmd mwr296 r300 hc300) (cwV 0 hts (tg_V bq_2_226 bq_2_227 bq_2_228 bq_1_4 bq_2_229) rfl rfl rfl (by decide +kernel) ⟨Nat.le_of_ble_eq_true rfl, Nat.le_of_ble_eq_true rfl⟩) ⟨tx_blR, (va_recv (ci := 2) (q0 := 7) hK hP rfl rfl), tx_preR (hP.sub (ws' := (wR cA g0 g1 g2 g3 g4 g5 g6 g7 mrm mfl296 mus296 mlg296 mse296 mwe296 mwh296 mth296 mnx296 mmd mwr296)) [7, 8, 9, 10, 11, 12, 13, 14] rfl) hK1⟩ rfl rfl hl.1 rfl (lv_room (Nat.le_of_ble_eq_true rfl)) d_L_law_300 ⟨hkc, hks⟩) (fun zz hz => ?_)
  subst hz
  refine lv_iload hx hb d_L_law_303 (lv_at hl 0 rfl) ?_
  refine lv_icmp_eq hx hb d_L_law_305 (tgt := 310) (by decide) (fun h305 => ?_) (fun h305 => ?_)
  · have hF := tx_t h305 hF
    refine lv_goto hx hb d_L_law_310 (tgt := 833) (by decide) ?_
    cases hF
    exact hnext _ _ _ hP hD hS (lv_sub hl [1, 2, 3, 4, 5] rfl)
  · have hF := tx_f h305 hF
    refine lv_iconst (v := (0 : Int32)) hx hb d_L_law_308 (by decide) ?_
    cases hF
def f_W313_J365 (L : Nat) (xs : Nat → Int32) (v4 : Int32) (st : Nat → Int32) (pl : Nat → Int32) (tk : Nat → Int32) (wd : Nat → Int32) (er : Nat → Int32) (mrm : Nat → Int32) (mfl : Nat → Int32) (mus : Nat → Int32) (mlg : Nat → Int32) (mse : Nat → Int32) (mwe : Nat → Int32) (mwh : Nat → Int32) (nx : Int32) (md : Int32) (mth : Int32) (mnx : Int32) (mmd : Int32) (mwr : Int32) (ou : Nat → Int64)  : Option ((Nat → Int32) × (Nat → Int32) × (Nat → Int32) × (Nat → Int32) × (Nat → Int32) × (Nat → Int32) × (Nat → Int32) × (Nat → Int32) × (Nat → Int32) × (Nat → Int32) × (Nat → Int32) × (Nat → Int32) × Int32 × Int32 × Int32 × Int32 × Int32 × Int32 × (Nat → Int64)) := some (st, pl, tk, wd, er, mrm, mfl, mus, mlg, mse, mwe, mwh, nx, md, mth, mnx, mmd, mwr, ou)
def f_W313 (L : Nat) (xs : Nat → Int32) (st : Nat → Int32) (pl : Nat → Int32) (tk : Nat → Int32) (wd : Nat → Int32) (er : Nat → Int32) (mrm : Nat → Int32) (mfl : Nat → Int32) (mus : Nat → Int32) (mlg : Nat → Int32) (mse : Nat → Int32) (mwe : Nat → Int32) (mwh : Nat → Int32) (nx : Int32) (md : Int32) (mth : Int32) (mnx : Int32) (mmd : Int32) (mwr : Int32) (ou : Nat → Int64) (v4 : Int32) : Option ((Nat → Int32) × (Nat → Int32) × (Nat → Int32) × (Nat → Int32) × (Nat → Int32) × (Nat → Int32) × (Nat → Int32) × (Nat → Int32) × (Nat → Int32) × (Nat → Int32) × (Nat → Int32) × (Nat → Int32) × Int32 × Int32 × Int32 × Int32 × Int32 × Int32 × (Nat → Int64)) := if (v4 + (1 : Int32)) < 0 ∨ L ≤ (v4 + (1 : Int32)).toNatClampNeg then none else (f_L_read pl wd ou (xs (v4 + (1 : Int32)).toNatClampNeg)).bind fun (r321, ou321) => if (v4 + (1 : Int32)) < 0 ∨ L ≤ (v4 + (1 : Int32)).toNatClampNeg then none else (f_R_read mrm mfl mwh mth mwr (xs (v4 + (1 : Int32)).toNatClampNeg)).bind fun (r333, mth333, mwr333) => (f_R_thrown mth333).bind fun r339 => if r339 = r321 then (if r321 = 0 then (if (0 : Int32) < 0 ∨ 1 ≤ (0 : Int32).toNatClampNeg then none else if (lg_cmp (ou321 (0 : Int32).toNatClampNeg) r333) = 0 then (f_W313_J365 L xs v4 st pl tk wd er mrm mfl mus mlg mse mwe mwh nx md mth333 mnx mmd mwr333 ou321) else (none)) else (f_W313_J365 L xs v4 st pl tk wd er mrm mfl mus mlg mse mwe mwh nx md mth333 mnx mmd mwr333 ou321)) else (none)
set_option maxHeartbeats 4000000 in
set_option maxRecDepth 100000 in
theorem cs_313 {p : Program} {l : Launch} {e : Env} {s : State} {m : MethodId} {args : Array Value} {below : List Frame} {meth : Method} {c : Code} {Q : State → Prop} {c1 : Cond} (hx : p.tables.exec = Jvm.exec) (hb : c.code = b_L_law) (hml : c.maxLocals = 8) (hown : s.vm.findClass "FlashStoreLaw" = some m.cls) (hts : ∀ w ∈ c1 :: bw, w.before args s = true) (hfl : l.flags = pinnedFlags ++ [noTraceFlag]) {dC : Nat → ClassId} {dI : Nat → Nat → Nat} {cA cL : ClassId} (hK : va_K (dC, dI) vwCl [(cA, .int), (cL, .long)] s) (hNw : va_Nw tx_nest s) (hE : tx_E s) {b L : Nat} {xs : Nat → Int32} (hX : va_X b L xs s s.heap) (hbl : b < s.heap.size) (h0 q1 q2 q3 q4 q5 q6 g0 g1 g2 g3 g4 g5 g6 g7 qo : Nat) (st pl tk wd er mrm mfl mus mlg mse mwe mwh : Nat → Int32) (nx md mth mnx mmd mwr : Int32) (ou : Nat → Int64) (v4 : Int32) (kc ks : Nat) (hkc : kc + 1 ≤ 601024) (hks : ks + 6 ≤ 7293034) (st' : Nat → Int32) (pl' : Nat → Int32) (tk' : Nat → Int32) (wd' : Nat → Int32) (er' : Nat → Int32) (mrm' : Nat → Int32) (mfl' : Nat → Int32) (mus' : Nat → Int32) (mlg' : Nat → Int32) (mse' : Nat → Int32) (mwe' : Nat → Int32) (mwh' : Nat → Int32) (nx' : Int32) (md' : Int32) (mth' : Int32) (mnx' : Int32) (mmd' : Int32) (mwr' : Int32) (ou' : Nat → Int64) (hF : f_W313 L xs st pl tk wd er mrm mfl mus mlg mse mwe mwh nx md mth mnx mmd mwr ou v4 = some (st', pl', tk', wd', er', mrm', mfl', mus', mlg', mse', mwe', mwh', nx', md', mth', mnx', mmd', mwr', ou')) (hnext : ∀ (H : Heap) (locs : List Loc) (ls : Array Slot), va_P (dC, dI) vwCl (wW cA cL h0 q1 q2 q3 q4 q5 q6 g0 g1 g2 g3 g4 g5 g6 g7 qo (st') (pl') (tk') (wd') (er') (mrm') (mfl') (mus') (mlg') (mse') (mwe') (mwh') (nx') (md') (mth') (mnx') (mmd') (mwr') (ou')) H → va_D (fun q => s.heap.size ≤ q) (wW cA cL h0 q1 q2 q3 q4 q5 q6 g0 g1 g2 g3 g4 g5 g6 g7 qo (st') (pl') (tk') (wd') (er') (mrm') (mfl') (mus') (mlg') (mse') (mwe') (mwh') (nx') (md') (mth') (mnx') (mmd') (mwr') (ou')) → va_S (fun q => s.heap.size ≤ q) s.heap H locs → lv_has ls 8 [(0, .ref b), (1, .ref h0), (2, .ref g0), (3, .ref qo), (4, .int v4)] → W p l e room_1 s m args below meth c H locs (kc + 1) (ks + 6) Q (F0 m 833 ls [])) (H : Heap) (locs : List Loc) (ls : Array Slot) (hP : va_P (dC, dI) vwCl (wW cA cL h0 q1 q2 q3 q4 q5 q6 g0 g1 g2 g3 g4 g5 g6 g7 qo st pl tk wd er mrm mfl mus mlg mse mwe mwh nx md mth mnx mmd mwr ou) H) (hD : va_D (fun q => s.heap.size ≤ q) (wW cA cL h0 q1 q2 q3 q4 q5 q6 g0 g1 g2 g3 g4 g5 g6 g7 qo st pl tk wd er mrm mfl mus mlg mse mwe mwh nx md mth mnx mmd mwr ou)) (hS : va_S (fun q => s.heap.size ≤ q) s.heap H locs) (hl : lv_has ls 8 [(0, .ref b), (1, .ref h0), (2, .ref g0), (3, .ref qo), (4, .int v4)]) : W p l e room_1 s m args below meth c H locs kc ks Q (F0 m 313 ls []) := by
  have hK1 : va_K (dC, dI) vwCl [(cA, .int)] s := hK.sub [0] rfl
  have hA : ∀ q : Nat, s.heap.size ≤ q → s.heap.size ≤ q := fun _ h => h
  have J365 : ∀ (H : Heap) (locs : List Loc) (ls : Array Slot) (st : Nat → Int32) (pl : Nat → Int32) (tk : Nat → Int32) (wd : Nat → Int32) (er : Nat → Int32) (mrm : Nat → Int32) (mfl : Nat → Int32) (mus : Nat → Int32) (mlg : Nat → Int32) (mse : Nat → Int32) (mwe : Nat → Int32) (mwh : Nat → Int32) (nx : Int32) (md : Int32) (mth : Int32) (mnx : Int32) (mmd : Int32) (mwr : Int32) (ou : Nat → Int64), va_P (dC, dI) vwCl (wW cA cL h0 q1 q2 q3 q4 q5 q6 g0 g1 g2 g3 g4 g5 g6 g7 qo st pl tk wd er mrm mfl mus mlg mse mwe mwh nx md mth mnx mmd mwr ou) H → va_D (fun q => s.heap.size ≤ q) (wW cA cL h0 q1 q2 q3 q4 q5 q6 g0 g1 g2 g3 g4 g5 g6 g7 qo st pl tk wd er mrm mfl mus mlg mse mwe mwh nx md mth mnx mmd mwr ou) → va_S (fun q => s.heap.size ≤ q) s.heap H locs → lv_has ls 8 [(0, .ref b), (1, .ref h0), (2, .ref g0), (3, .ref qo), (4, .int v4)] → f_W313_J365 L xs v4 st pl tk wd er mrm mfl mus mlg mse mwe mwh nx md mth mnx mmd mwr ou = some (st', pl', tk', wd', er', mrm', mfl', mus', mlg', mse', mwe', mwh', nx', md', mth', mnx', mmd', mwr', ou') → W p l e room_1 s m args below meth c H locs (kc + 1) (ks + 6) Q (F0 m 365 ls []) := by
    intro H locs ls st pl tk wd er mrm mfl mus mlg mse mwe mwh nx md mth mnx mmd mwr ou hP hD hS hl hF
    have hF : (some (st, pl, tk, wd, er, mrm, mfl, mus, mlg, mse, mwe, mwh, nx, md, mth, mnx, mmd, mwr, ou)) = some (st', pl', tk', wd', er', mrm', mfl', mus', mlg', mse', mwe', mwh', nx', md', mth', mnx', mmd', mwr', ou') := hF
    refine lv_goto hx hb d_L_law_365 (tgt := 833) (by decide) ?_
    cases hF
    exact hnext _ _ _ hP hD hS (lv_sub hl [0, 1, 2, 3, 4] rfl)
  have hF : (if (v4 + (1 : Int32)) < 0 ∨ L ≤ (v4 + (1 : Int32)).toNatClampNeg then none else (f_L_read pl wd ou (xs (v4 + (1 : Int32)).toNatClampNeg)).bind fun (r321, ou321) => if (v4 + (1 : Int32)) < 0 ∨ L ≤ (v4 + (1 : Int32)).toNatClampNeg then none else (f_R_read mrm mfl mwh mth mwr (xs (v4 + (1 : Int32)).toNatClampNeg)).bind fun (r333, mth333, mwr333) => (f_R_thrown mth333).bind fun r339 => if r339 = r321 then (if r321 = 0 then (if (0 : Int32) < 0 ∨ 1 ≤ (0 : Int32).toNatClampNeg then none else if (lg_cmp (ou321 (0 : Int32).toNatClampNeg) r333) = 0 then (f_W313_J365 L xs v4 st pl tk wd er mrm mfl mus mlg mse mwe mwh nx md mth333 mnx mmd mwr333 ou321) else (none)) else (f_W313_J365 L xs v4 st pl tk wd er mrm mfl mus mlg mse mwe mwh nx md mth333 mnx mmd mwr333 ou321)) else (none)) = some (st', pl', tk', wd', er', mrm', mfl', mus', mlg', mse', mwe', mwh', nx', md', mth', mnx', mmd', mwr', ou') := hF
  refine lv_aload_n hx hb d_L_law_313 rfl (lv_at hl 1 rfl) ?_
  refine lv_aload_n hx hb d_L_law_314 rfl (lv_at hl 0 rfl) ?_
  refine lv_iload hx hb d_L_law_315 (lv_at hl 4 rfl) ?_
  refine lv_iconst (v := (1 : Int32)) hx hb d_L_law_317 (by decide) ?_
  refine lv_iadd hx hb d_L_law_318 ?_
  obtain ⟨hi319, hF⟩ := tx_g hF
  refine va_sld hx hb hX hbl (Nat.not_le.mpr hbl) hS hi319 d_L_law_319 ?_
  refine lv_aload_n hx hb d_L_law_320 rfl (lv_at hl 3 rfl) ?_
  obtain ⟨⟨r321, ou321⟩, hc321, hF⟩ := tx_b hF
  try dsimp only at hF
  have hPc := hP.sub (ws' := (wH cA cL h0 q1 q2 q3 q4 q5 q6 qo st pl tk wd er nx md ou)) [0, 1, 2, 3, 4, 5, 6, 15] rfl
  have hDc := hD.sub (ws' := (wH cA cL h0 q1 q2 q3 q4 q5 q6 qo st pl tk wd er nx md ou)) [0, 1, 2, 3, 4, 5, 6, 15] (by decide) rfl
  have hFc := va_free (wc := (wH cA cL h0 q1 q2 q3 q4 q5 q6 qo st pl tk wd er nx md ou)) hD hS hA [0, 1, 2, 3, 4, 5, 6, 15] rfl
  refine va_calli (tx_runSW (n := 3) (As := [.ref h0, .int (xs (v4 + (1 : Int32)).toNatClampNeg), .ref qo]) (rest := []) ⟨hx, hb, hml, hown, hts⟩ (c_L_read l dC dI cA cL h0 q1 q2 q3 q4 q5 q6 qo H.size st pl tk wd er nx md ou (xs (v4 + (1 : Int32)).toNatClampNeg) r321 ou321 hc321 hfl) (tg_S bq_2_108 bq_2_109 bq_1_0 bq_2_110) rfl rfl rfl (by decide +kernel) ⟨Nat.le_of_ble_eq_true rfl, Nat.le_of_ble_eq_true rfl⟩ ⟨tx_blH, tx_preH hPc hDc hK hNw (tx_E_up hE hS)⟩ rfl rfl hl.1 rfl (lv_room (Nat.le_of_ble_eq_true rfl)) d_L_law_321 ⟨hkc, hks⟩) hS (fun q _ h => hFc q h) hFc (fun zz _u t H locs ht hvm hw hB hz1 hk1 hS => ?_)
  subst hw
  obtain ⟨hP1, hD1⟩ := hB
  rw [ht] at hP1
  obtain ⟨hP2, hD2⟩ := va_join (wr := [(g0, .inr (2, [.int mth, .ref g1, .ref g2, .ref g3, .ref g4, .ref g5, .ref g6, .ref g7, .int mnx, .int mmd, .int mwr])), (g1, .inl (cA, 31, .inl mrm)), (g2, .inl (cA, 80, .inl mfl)), (g3, .inl (cA, 16, .inl mus)), (g4, .inl (cA, 16, .inl mlg)), (g5, .inl (cA, 16, .inl mse)), (g6, .inl (cA, 4, .inl mwe)), (g7, .inl (cA, 8, .inl mwh))]) (w1 := (wH cA cL h0 q1 q2 q3 q4 q5 q6 qo st pl tk wd er nx md ou321)) hP hD [0, 1, 2, 3, 4, 5, 6, 15] [7, 8, 9, 10, 11, 12, 13, 14] rfl rfl (by decide) (by decide) hk1 hFc hP1 hD1
  have hP := hP2.sub (ws' := (wW cA cL h0 q1 q2 q3 q4 q5 q6 g0 g1 g2 g3 g4 g5 g6 g7 qo st pl tk wd er mrm mfl mus mlg mse mwe mwh nx md mth mnx mmd mwr ou321)) [8, 9, 10, 11, 12, 13, 14, 0, 1, 2, 3, 4, 5, 6, 7, 15] rfl
  have hD := hD2.sub (ws' := (wW cA cL h0 q1 q2 q3 q4 q5 q6 g0 g1 g2 g3 g4 g5 g6 g7 qo st pl tk wd er mrm mfl mus mlg mse mwe mwh nx md mth mnx mmd mwr ou321)) [8, 9, 10, 11, 12, 13, 14, 0, 1, 2, 3, 4, 5, 6, 7, 15] (by decide) rfl
  refine lv_istore hx hb d_L_law_324 hl (by decide) rfl (fun ls hl => ?_)
  have hl : lv_has ls 8 [(5, .int r321), (0, .ref b), (1, .ref h0), (2, .ref g0), (3, .ref qo), (4, .int v4)] := hl
  refine lv_aload_n hx hb d_L_law_326 rfl (lv_at hl 3 rfl) ?_
  refine lv_aload_n hx hb d_L_law_327 rfl (lv_at hl 1 rfl) ?_
  refine lv_iload hx hb d_L_law_328 (lv_at hl 5 rfl) ?_
  refine lv_iconst (v := (1 : Int32)) hx hb d_L_law_330 (by decide) ?_
  refine lv_iadd hx hb d_L_law_331 ?_
  obtain ⟨hi332, hF⟩ := tx_g hF
  refine va_sld hx hb hX hbl (Nat.not_le.mpr hbl) hS hi332 d_L_law_332 ?_
  obtain ⟨⟨r333, mth333, mwr333⟩, hc333, hF⟩ := tx_b hF
  try dsimp only at hF
  have hPc := hP.sub (ws' := (wR cA g0 g1 g2 g3 g4 g5 g6 g7 mrm mfl mus mlg mse mwe mwh mth mnx mmd mwr)) [7, 8, 9, 10, 11, 12, 13, 14] rfl
  have hDc := hD.sub (ws' := (wR cA g0 g1 g2 g3 g4 g5 g6 g7 mrm mfl mus mlg mse mwe mwh mth mnx mmd mwr)) [7, 8, 9, 10, 11, 12, 13, 14] (by decide) rfl
  have hFc := va_free (wc := (wR cA g0 g1 g2 g3 g4 g5 g6 g7 mrm mfl mus mlg mse mwe mwh mth mnx mmd mwr)) hD hS hA [7, 8, 9, 10, 11, 12, 13, 14] rfl
  refine va_calll (va_runV (As := [.int (xs (v4 + (1 : Int32)).toNatClampNeg)]) (rest := []) ⟨hx, hb, hml, hown, hts⟩ (c_R_read l dC dI cA g0 g1 g2 g3 g4 g5 g6 g7 H.size mrm mfl mus mlg mse mwe mwh mth mnx mmd mwr (xs (v4 + (1 : Int32)).toNatClampNeg) r333 mth333 mwr333 hc333) (cwV 1 hts (tg_V bq_3_72 bq_3_73 bq_3_74 bq_1_4 bq_3_75) rfl rfl rfl (by decide +kernel) ⟨Nat.le_of_ble_eq_true rfl, Nat.le_of_ble_eq_true rfl⟩) ⟨tx_blW, (va_recv (ci := 2) (q0 := 7) hK hP rfl rfl), tx_preW hPc hDc hK1 hNw⟩ rfl rfl hl.1 rfl (lv_room (Nat.le_of_ble_eq_true rfl)) d_L_law_333 ⟨hkc, hks⟩) hS (fun q _ h => hFc q h) hFc (fun zz _u t H locs ht hvm hw hB hz1 hk1 hS => ?_)
  subst hw
  obtain ⟨hP1, hD1⟩ := hB
  rw [ht] at hP1
  obtain ⟨hP2, hD2⟩ := va_join (wr := [(h0, .inr (1, [.ref q1, .ref q2, .ref q3, .ref q4, .int nx, .int md])), (q1, .inr (0, [.ref q5, .ref q6])), (q2, .inl (cA, 16, .inl st)), (q3, .inl (cA, 8, .inl pl)), (q4, .inl (cA, 8, .inl tk)), (q5, .inl (cA, 80, .inl wd)), (q6, .inl (cA, 4, .inl er)), (qo, .inl (cL, 1, .inr (.inl ou321)))]) (w1 := (wR cA g0 g1 g2 g3 g4 g5 g6 g7 mrm mfl mus mlg mse mwe mwh mth333 mnx mmd mwr333)) hP hD [7, 8, 9, 10, 11, 12, 13, 14] [0, 1, 2, 3, 4, 5, 6, 15] rfl rfl (by decide) (by decide) hk1 hFc hP1 hD1
  have hP := hP2.sub (ws' := (wW cA cL h0 q1 q2 q3 q4 q5 q6 g0 g1 g2 g3 g4 g5 g6 g7 qo st pl tk wd er mrm mfl mus mlg mse mwe mwh nx md mth333 mnx mmd mwr333 ou321)) [0, 1, 2, 3, 4, 5, 6, 8, 9, 10, 11, 12, 13, 14, 15, 7] rfl
  have hD := hD2.sub (ws' := (wW cA cL h0 q1 q2 q3 q4 q5 q6 g0 g1 g2 g3 g4 g5 g6 g7 qo st pl tk wd er mrm mfl mus mlg mse mwe mwh nx md mth333 mnx mmd mwr333 ou321)) [0, 1, 2, 3, 4, 5, 6, 8, 9, 10, 11, 12, 13, 14, 15, 7] (by decide) rfl
  refine lv_lstore hx hb d_L_law_336 hl (by decide) rfl (fun ls hl => ?_)
  have hl : lv_has ls 8 [(6, .long r333), (5, .int r321), (0, .ref b), (1, .ref h0), (2, .ref g0), (3, .ref qo), (4, .int v4)] := hl
  refine lv_aload_n hx hb d_L_law_338 rfl (lv_at hl 4 rfl) ?_
  obtain ⟨r339, hc339, hF⟩ := tx_b hF
  refine vp_callSi (W.runV (As := []) (rest := []) ⟨hx, hb, hml, hown, hts⟩ (c_R_thrown l dC dI cA g0 g1 g2 g3 g4 g5 g6 g7 mrm mfl mus mlg mse mwe mwh mth333 mnx mmd mwr333 r339 hc339) (cwV 0 hts (tg_V bq_2_226 bq_2_227 bq_2_228 bq_1_4 bq_2_229) rfl rfl rfl (by decide +kernel) ⟨Nat.le_of_ble_eq_true rfl, Nat.le_of_ble_eq_true rfl⟩) ⟨tx_blR, (va_recv (ci := 2) (q0 := 7) hK hP rfl rfl), tx_preR (hP.sub (ws' := (wR cA g0 g1 g2 g3 g4 g5 g6 g7 mrm mfl mus mlg mse mwe mwh mth333 mnx mmd mwr333)) [7, 8, 9, 10, 11, 12, 13, 14] rfl) hK1⟩ rfl rfl hl.1 rfl (lv_room (Nat.le_of_ble_eq_true rfl)) d_L_law_339 ⟨hkc, hks⟩) (fun zz hz => ?_)
  subst hz
  refine lv_iload hx hb d_L_law_342 (lv_at hl 1 rfl) ?_
  refine lv_icmp_eq hx hb d_L_law_344 (tgt := 349) (by decide) (fun h344 => ?_) (fun h344 => ?_)
  · have hF := tx_t h344 hF
    refine lv_iload hx hb d_L_law_349 (lv_at hl 1 rfl) ?_
    refine lv_if_ne hx hb d_L_law_351 (tgt := 365) (by decide) (fun h351 => ?_) (fun h351 => ?_)
    · have hF := tx_f h351 hF
      exact J365 _ _ _ st pl tk wd er mrm mfl mus mlg mse mwe mwh nx md mth333 mnx mmd mwr333 ou321 hP hD hS (lv_sub hl [2, 3, 4, 5, 6] rfl) hF
    · have hF := tx_t h351 hF
      refine lv_aload_n hx hb d_L_law_354 rfl (lv_at hl 5 rfl) ?_
      refine lv_iconst (v := (0 : Int32)) hx hb d_L_law_355 (by decide) ?_
      obtain ⟨hi356, hF⟩ := tx_g hF
      refine va_lald hx hb hK hP 15 1 rfl rfl hi356 d_L_law_356 ?_
      refine lv_lload hx hb d_L_law_357 (lv_at hl 0 rfl) ?_
      refine W.lcmp hx hb d_L_law_359 ?_
      refine lv_if_eq hx hb d_L_law_360 (tgt := 365) (by decide) (fun h360 => ?_) (fun h360 => ?_)
      · have hF := tx_t h360 hF
        exact J365 _ _ _ st pl tk wd er mrm mfl mus mlg mse mwe mwh nx md mth333 mnx mmd mwr333 ou321 hP hD hS (lv_sub hl [2, 3, 4, 5, 6] rfl) hF
      · have hF := tx_f h360 hF
        refine lv_iconst (v := (0 : Int32)) hx hb d_L_law_363 (by decide) ?_
        cases hF
  · have hF := tx_f h344 hF
    refine lv_iconst (v := (0 : Int32)) hx hb d_L_law_347 (by decide) ?_
    cases hF
def f_W368_J428 (L : Nat) (xs : Nat → Int32) (v4 : Int32) (st : Nat → Int32) (pl : Nat → Int32) (tk : Nat → Int32) (wd : Nat → Int32) (er : Nat → Int32) (mrm : Nat → Int32) (mfl : Nat → Int32) (mus : Nat → Int32) (mlg : Nat → Int32) (mse : Nat → Int32) (mwe : Nat → Int32) (mwh : Nat → Int32) (nx : Int32) (md : Int32) (mth : Int32) (mnx : Int32) (mmd : Int32) (mwr : Int32) (ou : Nat → Int64)  : Option ((Nat → Int32) × (Nat → Int32) × (Nat → Int32) × (Nat → Int32) × (Nat → Int32) × (Nat → Int32) × (Nat → Int32) × (Nat → Int32) × (Nat → Int32) × (Nat → Int32) × (Nat → Int32) × (Nat → Int32) × Int32 × Int32 × Int32 × Int32 × Int32 × Int32 × (Nat → Int64)) := some (st, pl, tk, wd, er, mrm, mfl, mus, mlg, mse, mwe, mwh, nx, md, mth, mnx, mmd, mwr, ou)
def f_W368_J422 (L : Nat) (xs : Nat → Int32) (v4 : Int32) (st : Nat → Int32) (pl : Nat → Int32) (tk : Nat → Int32) (wd : Nat → Int32) (er : Nat → Int32) (mrm : Nat → Int32) (mfl : Nat → Int32) (mus : Nat → Int32) (mlg : Nat → Int32) (mse : Nat → Int32) (mwe : Nat → Int32) (mwh : Nat → Int32) (nx : Int32) (md : Int32) (mth : Int32) (mnx : Int32) (mmd : Int32) (mwr : Int32) (ou : Nat → Int64) (z0 : Int64) (z1 : Int64) : Option ((Nat → Int32) × (Nat → Int32) × (Nat → Int32) × (Nat → Int32) × (Nat → Int32) × (Nat → Int32) × (Nat → Int32) × (Nat → Int32) × (Nat → Int32) × (Nat → Int32) × (Nat → Int32) × (Nat → Int32) × Int32 × Int32 × Int32 × Int32 × Int32 × Int32 × (Nat → Int64)) := if (lg_cmp z1 z0) = 0 then (f_W368_J428 L xs v4 st pl tk wd er mrm mfl mus mlg mse mwe mwh nx md mth mnx mmd mwr ou) else (none)
def f_W368 (L : Nat) (xs : Nat → Int32) (st : Nat → Int32) (pl : Nat → Int32) (tk : Nat → Int32) (wd : Nat → Int32) (er : Nat → Int32) (mrm : Nat → Int32) (mfl : Nat → Int32) (mus : Nat → Int32) (mlg : Nat → Int32) (mse : Nat → Int32) (mwe : Nat → Int32) (mwh : Nat → Int32) (nx : Int32) (md : Int32) (mth : Int32) (mnx : Int32) (mmd : Int32) (mwr : Int32) (ou : Nat → Int64) (v4 : Int32) : Option ((Nat → Int32) × (Nat → Int32) × (Nat → Int32) × (Nat → Int32) × (Nat → Int32) × (Nat → Int32) × (Nat → Int32) × (Nat → Int32) × (Nat → Int32) × (Nat → Int32) × (Nat → Int32) × (Nat → Int32) × Int32 × Int32 × Int32 × Int32 × Int32 × Int32 × (Nat → Int64)) := if (v4 + (1 : Int32)) < 0 ∨ L ≤ (v4 + (1 : Int32)).toNatClampNeg then none else (f_L_trim st pl ou (xs (v4 + (1 : Int32)).toNatClampNeg)).bind fun (r376, st376, pl376, ou376) => if (v4 + (1 : Int32)) < 0 ∨ L ≤ (v4 + (1 : Int32)).toNatClampNeg then none else (f_R_trim mus mwh mth (xs (v4 + (1 : Int32)).toNatClampNeg)).bind fun (r388, mus388, mwh388, mth388) => (f_R_thrown mth388).bind fun r394 => if r394 = r376 then (if r376 = 0 then (if (0 : Int32) < 0 ∨ 1 ≤ (0 : Int32).toNatClampNeg then none else if r388 = 0 then (f_W368_J422 L xs v4 st376 pl376 tk wd er mrm mfl mus388 mlg mse mwe mwh388 nx md mth388 mnx mmd mwr ou376 (0 : Int64) (ou376 (0 : Int32).toNatClampNeg)) else (f_W368_J422 L xs v4 st376 pl376 tk wd er mrm mfl mus388 mlg mse mwe mwh388 nx md mth388 mnx mmd mwr ou376 (1 : Int64) (ou376 (0 : Int32).toNatClampNeg))) else (f_W368_J428 L xs v4 st376 pl376 tk wd er mrm mfl mus388 mlg mse mwe mwh388 nx md mth388 mnx mmd mwr ou376)) else (none)
set_option maxHeartbeats 4000000 in
set_option maxRecDepth 100000 in
theorem cs_368 {p : Program} {l : Launch} {e : Env} {s : State} {m : MethodId} {args : Array Value} {below : List Frame} {meth : Method} {c : Code} {Q : State → Prop} {c1 : Cond} (hx : p.tables.exec = Jvm.exec) (hb : c.code = b_L_law) (hml : c.maxLocals = 8) (hown : s.vm.findClass "FlashStoreLaw" = some m.cls) (hts : ∀ w ∈ c1 :: bw, w.before args s = true) (hfl : l.flags = pinnedFlags ++ [noTraceFlag]) {dC : Nat → ClassId} {dI : Nat → Nat → Nat} {cA cL : ClassId} (hK : va_K (dC, dI) vwCl [(cA, .int), (cL, .long)] s) (hNw : va_Nw tx_nest s) (hE : tx_E s) {b L : Nat} {xs : Nat → Int32} (hX : va_X b L xs s s.heap) (hbl : b < s.heap.size) (h0 q1 q2 q3 q4 q5 q6 g0 g1 g2 g3 g4 g5 g6 g7 qo : Nat) (st pl tk wd er mrm mfl mus mlg mse mwe mwh : Nat → Int32) (nx md mth mnx mmd mwr : Int32) (ou : Nat → Int64) (v4 : Int32) (kc ks : Nat) (hkc : kc + 1 ≤ 601024) (hks : ks + 6 ≤ 7293034) (st' : Nat → Int32) (pl' : Nat → Int32) (tk' : Nat → Int32) (wd' : Nat → Int32) (er' : Nat → Int32) (mrm' : Nat → Int32) (mfl' : Nat → Int32) (mus' : Nat → Int32) (mlg' : Nat → Int32) (mse' : Nat → Int32) (mwe' : Nat → Int32) (mwh' : Nat → Int32) (nx' : Int32) (md' : Int32) (mth' : Int32) (mnx' : Int32) (mmd' : Int32) (mwr' : Int32) (ou' : Nat → Int64) (hF : f_W368 L xs st pl tk wd er mrm mfl mus mlg mse mwe mwh nx md mth mnx mmd mwr ou v4 = some (st', pl', tk', wd', er', mrm', mfl', mus', mlg', mse', mwe', mwh', nx', md', mth', mnx', mmd', mwr', ou')) (hnext : ∀ (H : Heap) (locs : List Loc) (ls : Array Slot), va_P (dC, dI) vwCl (wW cA cL h0 q1 q2 q3 q4 q5 q6 g0 g1 g2 g3 g4 g5 g6 g7 qo (st') (pl') (tk') (wd') (er') (mrm') (mfl') (mus') (mlg') (mse') (mwe') (mwh') (nx') (md') (mth') (mnx') (mmd') (mwr') (ou')) H → va_D (fun q => s.heap.size ≤ q) (wW cA cL h0 q1 q2 q3 q4 q5 q6 g0 g1 g2 g3 g4 g5 g6 g7 qo (st') (pl') (tk') (wd') (er') (mrm') (mfl') (mus') (mlg') (mse') (mwe') (mwh') (nx') (md') (mth') (mnx') (mmd') (mwr') (ou')) → va_S (fun q => s.heap.size ≤ q) s.heap H locs → lv_has ls 8 [(0, .ref b), (1, .ref h0), (2, .ref g0), (3, .ref qo), (4, .int v4)] → W p l e room_1 s m args below meth c H locs (kc + 1) (ks + 6) Q (F0 m 833 ls [])) (H : Heap) (locs : List Loc) (ls : Array Slot) (hP : va_P (dC, dI) vwCl (wW cA cL h0 q1 q2 q3 q4 q5 q6 g0 g1 g2 g3 g4 g5 g6 g7 qo st pl tk wd er mrm mfl mus mlg mse mwe mwh nx md mth mnx mmd mwr ou) H) (hD : va_D (fun q => s.heap.size ≤ q) (wW cA cL h0 q1 q2 q3 q4 q5 q6 g0 g1 g2 g3 g4 g5 g6 g7 qo st pl tk wd er mrm mfl mus mlg mse mwe mwh nx md mth mnx mmd mwr ou)) (hS : va_S (fun q => s.heap.size ≤ q) s.heap H locs) (hl : lv_has ls 8 [(0, .ref b), (1, .ref h0), (2, .ref g0), (3, .ref qo), (4, .int v4)]) : W p l e room_1 s m args below meth c H locs kc ks Q (F0 m 368 ls []) := by
  have hK1 : va_K (dC, dI) vwCl [(cA, .int)] s := hK.sub [0] rfl
  have hA : ∀ q : Nat, s.heap.size ≤ q → s.heap.size ≤ q := fun _ h => h
  have J428 : ∀ (H : Heap) (locs : List Loc) (ls : Array Slot) (st : Nat → Int32) (pl : Nat → Int32) (tk : Nat → Int32) (wd : Nat → Int32) (er : Nat → Int32) (mrm : Nat → Int32) (mfl : Nat → Int32) (mus : Nat → Int32) (mlg : Nat → Int32) (mse : Nat → Int32) (mwe : Nat → Int32) (mwh : Nat → Int32) (nx : Int32) (md : Int32) (mth : Int32) (mnx : Int32) (mmd : Int32) (mwr : Int32) (ou : Nat → Int64), va_P (dC, dI) vwCl (wW cA cL h0 q1 q2 q3 q4 q5 q6 g0 g1 g2 g3 g4 g5 g6 g7 qo st pl tk wd er mrm mfl mus mlg mse mwe mwh nx md mth mnx mmd mwr ou) H → va_D (fun q => s.heap.size ≤ q) (wW cA cL h0 q1 q2 q3 q4 q5 q6 g0 g1 g2 g3 g4 g5 g6 g7 qo st pl tk wd er mrm mfl mus mlg mse mwe mwh nx md mth mnx mmd mwr ou) → va_S (fun q => s.heap.size ≤ q) s.heap H locs → lv_has ls 8 [(0, .ref b), (1, .ref h0), (2, .ref g0), (3, .ref qo), (4, .int v4)] → f_W368_J428 L xs v4 st pl tk wd er mrm mfl mus mlg mse mwe mwh nx md mth mnx mmd mwr ou = some (st', pl', tk', wd', er', mrm', mfl', mus', mlg', mse', mwe', mwh', nx', md', mth', mnx', mmd', mwr', ou') → W p l e room_1 s m args below meth c H locs (kc + 1) (ks + 6) Q (F0 m 428 ls []) := by
    intro H locs ls st pl tk wd er mrm mfl mus mlg mse mwe mwh nx md mth mnx mmd mwr ou hP hD hS hl hF
    have hF : (some (st, pl, tk, wd, er, mrm, mfl, mus, mlg, mse, mwe, mwh, nx, md, mth, mnx, mmd, mwr, ou)) = some (st', pl', tk', wd', er', mrm', mfl', mus', mlg', mse', mwe', mwh', nx', md', mth', mnx', mmd', mwr', ou') := hF
    refine lv_goto hx hb d_L_law_428 (tgt := 833) (by decide) ?_
    cases hF
    exact hnext _ _ _ hP hD hS (lv_sub hl [0, 1, 2, 3, 4] rfl)
  have J422 : ∀ (H : Heap) (locs : List Loc) (ls : Array Slot) (st : Nat → Int32) (pl : Nat → Int32) (tk : Nat → Int32) (wd : Nat → Int32) (er : Nat → Int32) (mrm : Nat → Int32) (mfl : Nat → Int32) (mus : Nat → Int32) (mlg : Nat → Int32) (mse : Nat → Int32) (mwe : Nat → Int32) (mwh : Nat → Int32) (nx : Int32) (md : Int32) (mth : Int32) (mnx : Int32) (mmd : Int32) (mwr : Int32) (ou : Nat → Int64) (z0 : Int64) (z1 : Int64), va_P (dC, dI) vwCl (wW cA cL h0 q1 q2 q3 q4 q5 q6 g0 g1 g2 g3 g4 g5 g6 g7 qo st pl tk wd er mrm mfl mus mlg mse mwe mwh nx md mth mnx mmd mwr ou) H → va_D (fun q => s.heap.size ≤ q) (wW cA cL h0 q1 q2 q3 q4 q5 q6 g0 g1 g2 g3 g4 g5 g6 g7 qo st pl tk wd er mrm mfl mus mlg mse mwe mwh nx md mth mnx mmd mwr ou) → va_S (fun q => s.heap.size ≤ q) s.heap H locs → lv_has ls 8 [(0, .ref b), (1, .ref h0), (2, .ref g0), (3, .ref qo), (4, .int v4)] → f_W368_J422 L xs v4 st pl tk wd er mrm mfl mus mlg mse mwe mwh nx md mth mnx mmd mwr ou z0 z1 = some (st', pl', tk', wd', er', mrm', mfl', mus', mlg', mse', mwe', mwh', nx', md', mth', mnx', mmd', mwr', ou') → W p l e room_1 s m args below meth c H locs (kc + 1) (ks + 6) Q (F0 m 422 ls [.long z0, .long z1]) := by
    intro H locs ls st pl tk wd er mrm mfl mus mlg mse mwe mwh nx md mth mnx mmd mwr ou z0 z1 hP hD hS hl hF
    have hF : (if (lg_cmp z1 z0) = 0 then (f_W368_J428 L xs v4 st pl tk wd er mrm mfl mus mlg mse mwe mwh nx md mth mnx mmd mwr ou) else (none)) = some (st', pl', tk', wd', er', mrm', mfl', mus', mlg', mse', mwe', mwh', nx', md', mth', mnx', mmd', mwr', ou') := hF
    refine W.lcmp hx hb d_L_law_422 ?_
    refine lv_if_eq hx hb d_L_law_423 (tgt := 428) (by decide) (fun h423 => ?_) (fun h423 => ?_)
    · have hF := tx_t h423 hF
      exact J428 _ _ _ st pl tk wd er mrm mfl mus mlg mse mwe mwh nx md mth mnx mmd mwr ou hP hD hS hl hF
    · have hF := tx_f h423 hF
      refine lv_iconst (v := (0 : Int32)) hx hb d_L_law_426 (by decide) ?_
      cases hF
  have hF : (if (v4 + (1 : Int32)) < 0 ∨ L ≤ (v4 + (1 : Int32)).toNatClampNeg then none else (f_L_trim st pl ou (xs (v4 + (1 : Int32)).toNatClampNeg)).bind fun (r376, st376, pl376, ou376) => if (v4 + (1 : Int32)) < 0 ∨ L ≤ (v4 + (1 : Int32)).toNatClampNeg then none else (f_R_trim mus mwh mth (xs (v4 + (1 : Int32)).toNatClampNeg)).bind fun (r388, mus388, mwh388, mth388) => (f_R_thrown mth388).bind fun r394 => if r394 = r376 then (if r376 = 0 then (if (0 : Int32) < 0 ∨ 1 ≤ (0 : Int32).toNatClampNeg then none else if r388 = 0 then (f_W368_J422 L xs v4 st376 pl376 tk wd er mrm mfl mus388 mlg mse mwe mwh388 nx md mth388 mnx mmd mwr ou376 (0 : Int64) (ou376 (0 : Int32).toNatClampNeg)) else (f_W368_J422 L xs v4 st376 pl376 tk wd er mrm mfl mus388 mlg mse mwe mwh388 nx md mth388 mnx mmd mwr ou376 (1 : Int64) (ou376 (0 : Int32).toNatClampNeg))) else (f_W368_J428 L xs v4 st376 pl376 tk wd er mrm mfl mus388 mlg mse mwe mwh388 nx md mth388 mnx mmd mwr ou376)) else (none)) = some (st', pl', tk', wd', er', mrm', mfl', mus', mlg', mse', mwe', mwh', nx', md', mth', mnx', mmd', mwr', ou') := hF
  refine lv_aload_n hx hb d_L_law_368 rfl (lv_at hl 1 rfl) ?_
  refine lv_aload_n hx hb d_L_law_369 rfl (lv_at hl 0 rfl) ?_
  refine lv_iload hx hb d_L_law_370 (lv_at hl 4 rfl) ?_
  refine lv_iconst (v := (1 : Int32)) hx hb d_L_law_372 (by decide) ?_
  refine lv_iadd hx hb d_L_law_373 ?_
  obtain ⟨hi374, hF⟩ := tx_g hF
  refine va_sld hx hb hX hbl (Nat.not_le.mpr hbl) hS hi374 d_L_law_374 ?_
  refine lv_aload_n hx hb d_L_law_375 rfl (lv_at hl 3 rfl) ?_
  obtain ⟨⟨r376, st376, pl376, ou376⟩, hc376, hF⟩ := tx_b hF
  try dsimp only at hF
  have hPc := hP.sub (ws' := (wH cA cL h0 q1 q2 q3 q4 q5 q6 qo st pl tk wd er nx md ou)) [0, 1, 2, 3, 4, 5, 6, 15] rfl
  have hDc := hD.sub (ws' := (wH cA cL h0 q1 q2 q3 q4 q5 q6 qo st pl tk wd er nx md ou)) [0, 1, 2, 3, 4, 5, 6, 15] (by decide) rfl
  have hFc := va_free (wc := (wH cA cL h0 q1 q2 q3 q4 q5 q6 qo st pl tk wd er nx md ou)) hD hS hA [0, 1, 2, 3, 4, 5, 6, 15] rfl
  refine va_calli (tx_runSW (n := 3) (As := [.ref h0, .int (xs (v4 + (1 : Int32)).toNatClampNeg), .ref qo]) (rest := []) ⟨hx, hb, hml, hown, hts⟩ (c_L_trim l dC dI cA cL h0 q1 q2 q3 q4 q5 q6 qo H.size st pl tk wd er nx md ou (xs (v4 + (1 : Int32)).toNatClampNeg) r376 st376 pl376 ou376 hc376 hfl) (tg_S bq_2_117 bq_2_118 bq_1_0 bq_2_119) rfl rfl rfl (by decide +kernel) ⟨Nat.le_of_ble_eq_true rfl, Nat.le_of_ble_eq_true rfl⟩ ⟨tx_blH, tx_preH hPc hDc hK hNw (tx_E_up hE hS)⟩ rfl rfl hl.1 rfl (lv_room (Nat.le_of_ble_eq_true rfl)) d_L_law_376 ⟨hkc, hks⟩) hS (fun q _ h => hFc q h) hFc (fun zz _u t H locs ht hvm hw hB hz1 hk1 hS => ?_)
  subst hw
  obtain ⟨hP1, hD1⟩ := hB
  rw [ht] at hP1
  obtain ⟨hP2, hD2⟩ := va_join (wr := [(g0, .inr (2, [.int mth, .ref g1, .ref g2, .ref g3, .ref g4, .ref g5, .ref g6, .ref g7, .int mnx, .int mmd, .int mwr])), (g1, .inl (cA, 31, .inl mrm)), (g2, .inl (cA, 80, .inl mfl)), (g3, .inl (cA, 16, .inl mus)), (g4, .inl (cA, 16, .inl mlg)), (g5, .inl (cA, 16, .inl mse)), (g6, .inl (cA, 4, .inl mwe)), (g7, .inl (cA, 8, .inl mwh))]) (w1 := (wH cA cL h0 q1 q2 q3 q4 q5 q6 qo st376 pl376 tk wd er nx md ou376)) hP hD [0, 1, 2, 3, 4, 5, 6, 15] [7, 8, 9, 10, 11, 12, 13, 14] rfl rfl (by decide) (by decide) hk1 hFc hP1 hD1
  have hP := hP2.sub (ws' := (wW cA cL h0 q1 q2 q3 q4 q5 q6 g0 g1 g2 g3 g4 g5 g6 g7 qo st376 pl376 tk wd er mrm mfl mus mlg mse mwe mwh nx md mth mnx mmd mwr ou376)) [8, 9, 10, 11, 12, 13, 14, 0, 1, 2, 3, 4, 5, 6, 7, 15] rfl
  have hD := hD2.sub (ws' := (wW cA cL h0 q1 q2 q3 q4 q5 q6 g0 g1 g2 g3 g4 g5 g6 g7 qo st376 pl376 tk wd er mrm mfl mus mlg mse mwe mwh nx md mth mnx mmd mwr ou376)) [8, 9, 10, 11, 12, 13, 14, 0, 1, 2, 3, 4, 5, 6, 7, 15] (by decide) rfl
  refine lv_istore hx hb d_L_law_379 hl (by decide) rfl (fun ls hl => ?_)
  have hl : lv_has ls 8 [(5, .int r376), (0, .ref b), (1, .ref h0), (2, .ref g0), (3, .ref qo), (4, .int v4)] := hl
  refine lv_aload_n hx hb d_L_law_381 rfl (lv_at hl 3 rfl) ?_
  refine lv_aload_n hx hb d_L_law_382 rfl (lv_at hl 1 rfl) ?_
  refine lv_iload hx hb d_L_law_383 (lv_at hl 5 rfl) ?_
  refine lv_iconst (v := (1 : Int32)) hx hb d_L_law_385 (by decide) ?_
  refine lv_iadd hx hb d_L_law_386 ?_
  obtain ⟨hi387, hF⟩ := tx_g hF
  refine va_sld hx hb hX hbl (Nat.not_le.mpr hbl) hS hi387 d_L_law_387 ?_
  obtain ⟨⟨r388, mus388, mwh388, mth388⟩, hc388, hF⟩ := tx_b hF
  try dsimp only at hF
  have hPc := hP.sub (ws' := (wR cA g0 g1 g2 g3 g4 g5 g6 g7 mrm mfl mus mlg mse mwe mwh mth mnx mmd mwr)) [7, 8, 9, 10, 11, 12, 13, 14] rfl
  have hDc := hD.sub (ws' := (wR cA g0 g1 g2 g3 g4 g5 g6 g7 mrm mfl mus mlg mse mwe mwh mth mnx mmd mwr)) [7, 8, 9, 10, 11, 12, 13, 14] (by decide) rfl
  have hFc := va_free (wc := (wR cA g0 g1 g2 g3 g4 g5 g6 g7 mrm mfl mus mlg mse mwe mwh mth mnx mmd mwr)) hD hS hA [7, 8, 9, 10, 11, 12, 13, 14] rfl
  refine va_calli (va_runV (As := [.int (xs (v4 + (1 : Int32)).toNatClampNeg)]) (rest := []) ⟨hx, hb, hml, hown, hts⟩ (c_R_trim l dC dI cA g0 g1 g2 g3 g4 g5 g6 g7 H.size mrm mfl mus mlg mse mwe mwh mth mnx mmd mwr (xs (v4 + (1 : Int32)).toNatClampNeg) r388 mus388 mwh388 mth388 hc388) (cwV 1 hts (tg_V bq_3_76 bq_3_77 bq_3_78 bq_1_4 bq_3_79) rfl rfl rfl (by decide +kernel) ⟨Nat.le_of_ble_eq_true rfl, Nat.le_of_ble_eq_true rfl⟩) ⟨tx_blW, (va_recv (ci := 2) (q0 := 7) hK hP rfl rfl), tx_preW hPc hDc hK1 hNw⟩ rfl rfl hl.1 rfl (lv_room (Nat.le_of_ble_eq_true rfl)) d_L_law_388 ⟨hkc, hks⟩) hS (fun q _ h => hFc q h) hFc (fun zz _u t H locs ht hvm hw hB hz1 hk1 hS => ?_)
  subst hw
  obtain ⟨hP1, hD1⟩ := hB
  rw [ht] at hP1
  obtain ⟨hP2, hD2⟩ := va_join (wr := [(h0, .inr (1, [.ref q1, .ref q2, .ref q3, .ref q4, .int nx, .int md])), (q1, .inr (0, [.ref q5, .ref q6])), (q2, .inl (cA, 16, .inl st376)), (q3, .inl (cA, 8, .inl pl376)), (q4, .inl (cA, 8, .inl tk)), (q5, .inl (cA, 80, .inl wd)), (q6, .inl (cA, 4, .inl er)), (qo, .inl (cL, 1, .inr (.inl ou376)))]) (w1 := (wR cA g0 g1 g2 g3 g4 g5 g6 g7 mrm mfl mus388 mlg mse mwe mwh388 mth388 mnx mmd mwr)) hP hD [7, 8, 9, 10, 11, 12, 13, 14] [0, 1, 2, 3, 4, 5, 6, 15] rfl rfl (by decide) (by decide) hk1 hFc hP1 hD1
  have hP := hP2.sub (ws' := (wW cA cL h0 q1 q2 q3 q4 q5 q6 g0 g1 g2 g3 g4 g5 g6 g7 qo st376 pl376 tk wd er mrm mfl mus388 mlg mse mwe mwh388 nx md mth388 mnx mmd mwr ou376)) [0, 1, 2, 3, 4, 5, 6, 8, 9, 10, 11, 12, 13, 14, 15, 7] rfl
  have hD := hD2.sub (ws' := (wW cA cL h0 q1 q2 q3 q4 q5 q6 g0 g1 g2 g3 g4 g5 g6 g7 qo st376 pl376 tk wd er mrm mfl mus388 mlg mse mwe mwh388 nx md mth388 mnx mmd mwr ou376)) [0, 1, 2, 3, 4, 5, 6, 8, 9, 10, 11, 12, 13, 14, 15, 7] (by decide) rfl
  refine lv_istore hx hb d_L_law_391 hl (by decide) rfl (fun ls hl => ?_)
  have hl : lv_has ls 8 [(6, .int r388), (5, .int r376), (0, .ref b), (1, .ref h0), (2, .ref g0), (3, .ref qo), (4, .int v4)] := hl
  refine lv_aload_n hx hb d_L_law_393 rfl (lv_at hl 4 rfl) ?_
  obtain ⟨r394, hc394, hF⟩ := tx_b hF
  refine vp_callSi (W.runV (As := []) (rest := []) ⟨hx, hb, hml, hown, hts⟩ (c_R_thrown l dC dI cA g0 g1 g2 g3 g4 g5 g6 g7 mrm mfl mus388 mlg mse mwe mwh388 mth388 mnx mmd mwr r394 hc394) (cwV 0 hts (tg_V bq_2_226 bq_2_227 bq_2_228 bq_1_4 bq_2_229) rfl rfl rfl (by decide +kernel) ⟨Nat.le_of_ble_eq_true rfl, Nat.le_of_ble_eq_true rfl⟩) ⟨tx_blR, (va_recv (ci := 2) (q0 := 7) hK hP rfl rfl), tx_preR (hP.sub (ws' := (wR cA g0 g1 g2 g3 g4 g5 g6 g7 mrm mfl mus388 mlg mse mwe mwh388 mth388 mnx mmd mwr)) [7, 8, 9, 10, 11, 12, 13, 14] rfl) hK1⟩ rfl rfl hl.1 rfl (lv_room (Nat.le_of_ble_eq_true rfl)) d_L_law_394 ⟨hkc, hks⟩) (fun zz hz => ?_)
  subst hz
  refine lv_iload hx hb d_L_law_397 (lv_at hl 1 rfl) ?_
  refine lv_icmp_eq hx hb d_L_law_399 (tgt := 404) (by decide) (fun h399 => ?_) (fun h399 => ?_)
  · have hF := tx_t h399 hF
    refine lv_iload hx hb d_L_law_404 (lv_at hl 1 rfl) ?_
    refine lv_if_ne hx hb d_L_law_406 (tgt := 428) (by decide) (fun h406 => ?_) (fun h406 => ?_)
    · have hF := tx_f h406 hF
      exact J428 _ _ _ st376 pl376 tk wd er mrm mfl mus388 mlg mse mwe mwh388 nx md mth388 mnx mmd mwr ou376 hP hD hS (lv_sub hl [2, 3, 4, 5, 6] rfl) hF
    · have hF := tx_t h406 hF
      refine lv_aload_n hx hb d_L_law_409 rfl (lv_at hl 5 rfl) ?_
      refine lv_iconst (v := (0 : Int32)) hx hb d_L_law_410 (by decide) ?_
      obtain ⟨hi411, hF⟩ := tx_g hF
      refine va_lald hx hb hK hP 15 1 rfl rfl hi411 d_L_law_411 ?_
      refine lv_iload hx hb d_L_law_412 (lv_at hl 0 rfl) ?_
      refine lv_if_eq hx hb d_L_law_414 (tgt := 421) (by decide) (fun h414 => ?_) (fun h414 => ?_)
      · have hF := tx_t h414 hF
        refine lv_lconst (v := (0 : Int64)) hx hb d_L_law_421 (by decide) ?_
        exact J422 _ _ _ st376 pl376 tk wd er mrm mfl mus388 mlg mse mwe mwh388 nx md mth388 mnx mmd mwr ou376 (0 : Int64) (ou376 (0 : Int32).toNatClampNeg) hP hD hS (lv_sub hl [2, 3, 4, 5, 6] rfl) hF
      · have hF := tx_f h414 hF
        refine lv_lconst (v := (1 : Int64)) hx hb d_L_law_417 (by decide) ?_
        refine lv_goto hx hb d_L_law_418 (tgt := 422) (by decide) ?_
        exact J422 _ _ _ st376 pl376 tk wd er mrm mfl mus388 mlg mse mwe mwh388 nx md mth388 mnx mmd mwr ou376 (1 : Int64) (ou376 (0 : Int32).toNatClampNeg) hP hD hS (lv_sub hl [2, 3, 4, 5, 6] rfl) hF
  · have hF := tx_f h399 hF
    refine lv_iconst (v := (0 : Int32)) hx hb d_L_law_402 (by decide) ?_
    cases hF
def f_W431 (L : Nat) (xs : Nat → Int32) (st : Nat → Int32) (pl : Nat → Int32) (tk : Nat → Int32) (wd : Nat → Int32) (er : Nat → Int32) (mrm : Nat → Int32) (mfl : Nat → Int32) (mus : Nat → Int32) (mlg : Nat → Int32) (mse : Nat → Int32) (mwe : Nat → Int32) (mwh : Nat → Int32) (nx : Int32) (md : Int32) (mth : Int32) (mnx : Int32) (mmd : Int32) (mwr : Int32) (ou : Nat → Int64) (v4 : Int32) : Option ((Nat → Int32) × (Nat → Int32) × (Nat → Int32) × (Nat → Int32) × (Nat → Int32) × (Nat → Int32) × (Nat → Int32) × (Nat → Int32) × (Nat → Int32) × (Nat → Int32) × (Nat → Int32) × (Nat → Int32) × Int32 × Int32 × Int32 × Int32 × Int32 × Int32 × (Nat → Int64)) := if (v4 + (1 : Int32)) < 0 ∨ L ≤ (v4 + (1 : Int32)).toNatClampNeg then none else if (v4 + (2 : Int32)) < 0 ∨ L ≤ (v4 + (2 : Int32)).toNatClampNeg then none else if (v4 + (3 : Int32)) < 0 ∨ L ≤ (v4 + (3 : Int32)).toNatClampNeg then none else if (v4 + (4 : Int32)) < 0 ∨ L ≤ (v4 + (4 : Int32)).toNatClampNeg then none else (f_L_spoil wd (xs (v4 + (1 : Int32)).toNatClampNeg) (xs (v4 + (2 : Int32)).toNatClampNeg) (xs (v4 + (3 : Int32)).toNatClampNeg) (xs (v4 + (4 : Int32)).toNatClampNeg)).bind fun (r456, wd456) => if (v4 + (1 : Int32)) < 0 ∨ L ≤ (v4 + (1 : Int32)).toNatClampNeg then none else if (v4 + (2 : Int32)) < 0 ∨ L ≤ (v4 + (2 : Int32)).toNatClampNeg then none else if (v4 + (3 : Int32)) < 0 ∨ L ≤ (v4 + (3 : Int32)).toNatClampNeg then none else if (v4 + (4 : Int32)) < 0 ∨ L ≤ (v4 + (4 : Int32)).toNatClampNeg then none else (f_R_spoil mfl mth (xs (v4 + (1 : Int32)).toNatClampNeg) (xs (v4 + (2 : Int32)).toNatClampNeg) (xs (v4 + (3 : Int32)).toNatClampNeg) (xs (v4 + (4 : Int32)).toNatClampNeg)).bind fun (mfl486, mth486) => (f_R_thrown mth486).bind fun r490 => if r490 = r456 then (some (st, pl, tk, wd456, er, mrm, mfl486, mus, mlg, mse, mwe, mwh, nx, md, mth486, mnx, mmd, mwr, ou)) else (none)
set_option maxHeartbeats 4000000 in
set_option maxRecDepth 100000 in
theorem cs_431 {p : Program} {l : Launch} {e : Env} {s : State} {m : MethodId} {args : Array Value} {below : List Frame} {meth : Method} {c : Code} {Q : State → Prop} {c1 : Cond} (hx : p.tables.exec = Jvm.exec) (hb : c.code = b_L_law) (hml : c.maxLocals = 8) (hown : s.vm.findClass "FlashStoreLaw" = some m.cls) (hts : ∀ w ∈ c1 :: bw, w.before args s = true) (hfl : l.flags = pinnedFlags ++ [noTraceFlag]) {dC : Nat → ClassId} {dI : Nat → Nat → Nat} {cA cL : ClassId} (hK : va_K (dC, dI) vwCl [(cA, .int), (cL, .long)] s) (hNw : va_Nw tx_nest s) (hE : tx_E s) {b L : Nat} {xs : Nat → Int32} (hX : va_X b L xs s s.heap) (hbl : b < s.heap.size) (h0 q1 q2 q3 q4 q5 q6 g0 g1 g2 g3 g4 g5 g6 g7 qo : Nat) (st pl tk wd er mrm mfl mus mlg mse mwe mwh : Nat → Int32) (nx md mth mnx mmd mwr : Int32) (ou : Nat → Int64) (v4 : Int32) (kc ks : Nat) (hkc : kc + 1 ≤ 601024) (hks : ks + 6 ≤ 7293034) (st' : Nat → Int32) (pl' : Nat → Int32) (tk' : Nat → Int32) (wd' : Nat → Int32) (er' : Nat → Int32) (mrm' : Nat → Int32) (mfl' : Nat → Int32) (mus' : Nat → Int32) (mlg' : Nat → Int32) (mse' : Nat → Int32) (mwe' : Nat → Int32) (mwh' : Nat → Int32) (nx' : Int32) (md' : Int32) (mth' : Int32) (mnx' : Int32) (mmd' : Int32) (mwr' : Int32) (ou' : Nat → Int64) (hF : f_W431 L xs st pl tk wd er mrm mfl mus mlg mse mwe mwh nx md mth mnx mmd mwr ou v4 = some (st', pl', tk', wd', er', mrm', mfl', mus', mlg', mse', mwe', mwh', nx', md', mth', mnx', mmd', mwr', ou')) (hnext : ∀ (H : Heap) (locs : List Loc) (ls : Array Slot), va_P (dC, dI) vwCl (wW cA cL h0 q1 q2 q3 q4 q5 q6 g0 g1 g2 g3 g4 g5 g6 g7 qo (st') (pl') (tk') (wd') (er') (mrm') (mfl') (mus') (mlg') (mse') (mwe') (mwh') (nx') (md') (mth') (mnx') (mmd') (mwr') (ou')) H → va_D (fun q => s.heap.size ≤ q) (wW cA cL h0 q1 q2 q3 q4 q5 q6 g0 g1 g2 g3 g4 g5 g6 g7 qo (st') (pl') (tk') (wd') (er') (mrm') (mfl') (mus') (mlg') (mse') (mwe') (mwh') (nx') (md') (mth') (mnx') (mmd') (mwr') (ou')) → va_S (fun q => s.heap.size ≤ q) s.heap H locs → lv_has ls 8 [(0, .ref b), (1, .ref h0), (2, .ref g0), (3, .ref qo), (4, .int v4)] → W p l e room_1 s m args below meth c H locs (kc + 1) (ks + 6) Q (F0 m 833 ls [])) (H : Heap) (locs : List Loc) (ls : Array Slot) (hP : va_P (dC, dI) vwCl (wW cA cL h0 q1 q2 q3 q4 q5 q6 g0 g1 g2 g3 g4 g5 g6 g7 qo st pl tk wd er mrm mfl mus mlg mse mwe mwh nx md mth mnx mmd mwr ou) H) (hD : va_D (fun q => s.heap.size ≤ q) (wW cA cL h0 q1 q2 q3 q4 q5 q6 g0 g1 g2 g3 g4 g5 g6 g7 qo st pl tk wd er mrm mfl mus mlg mse mwe mwh nx md mth mnx mmd mwr ou)) (hS : va_S (fun q => s.heap.size ≤ q) s.heap H locs) (hl : lv_has ls 8 [(0, .ref b), (1, .ref h0), (2, .ref g0), (3, .ref qo), (4, .int v4)]) : W p l e room_1 s m args below meth c H locs kc ks Q (F0 m 431 ls []) := by
  have hK1 : va_K (dC, dI) vwCl [(cA, .int)] s := hK.sub [0] rfl
  have hA : ∀ q : Nat, s.heap.size ≤ q → s.heap.size ≤ q := fun _ h => h
  have hF : (if (v4 + (1 : Int32)) < 0 ∨ L ≤ (v4 + (1 : Int32)).toNatClampNeg then none else if (v4 + (2 : Int32)) < 0 ∨ L ≤ (v4 + (2 : Int32)).toNatClampNeg then none else if (v4 + (3 : Int32)) < 0 ∨ L ≤ (v4 + (3 : Int32)).toNatClampNeg then none else if (v4 + (4 : Int32)) < 0 ∨ L ≤ (v4 + (4 : Int32)).toNatClampNeg then none else (f_L_spoil wd (xs (v4 + (1 : Int32)).toNatClampNeg) (xs (v4 + (2 : Int32)).toNatClampNeg) (xs (v4 + (3 : Int32)).toNatClampNeg) (xs (v4 + (4 : Int32)).toNatClampNeg)).bind fun (r456, wd456) => if (v4 + (1 : Int32)) < 0 ∨ L ≤ (v4 + (1 : Int32)).toNatClampNeg then none else if (v4 + (2 : Int32)) < 0 ∨ L ≤ (v4 + (2 : Int32)).toNatClampNeg then none else if (v4 + (3 : Int32)) < 0 ∨ L ≤ (v4 + (3 : Int32)).toNatClampNeg then none else if (v4 + (4 : Int32)) < 0 ∨ L ≤ (v4 + (4 : Int32)).toNatClampNeg then none else (f_R_spoil mfl mth (xs (v4 + (1 : Int32)).toNatClampNeg) (xs (v4 + (2 : Int32)).toNatClampNeg) (xs (v4 + (3 : Int32)).toNatClampNeg) (xs (v4 + (4 : Int32)).toNatClampNeg)).bind fun (mfl486, mth486) => (f_R_thrown mth486).bind fun r490 => if r490 = r456 then (some (st, pl, tk, wd456, er, mrm, mfl486, mus, mlg, mse, mwe, mwh, nx, md, mth486, mnx, mmd, mwr, ou)) else (none)) = some (st', pl', tk', wd', er', mrm', mfl', mus', mlg', mse', mwe', mwh', nx', md', mth', mnx', mmd', mwr', ou') := hF
  refine lv_aload_n hx hb d_L_law_431 rfl (lv_at hl 1 rfl) ?_
  refine lv_aload_n hx hb d_L_law_432 rfl (lv_at hl 0 rfl) ?_
  refine lv_iload hx hb d_L_law_433 (lv_at hl 4 rfl) ?_
  refine lv_iconst (v := (1 : Int32)) hx hb d_L_law_435 (by decide) ?_
  refine lv_iadd hx hb d_L_law_436 ?_
  obtain ⟨hi437, hF⟩ := tx_g hF
  refine va_sld hx hb hX hbl (Nat.not_le.mpr hbl) hS hi437 d_L_law_437 ?_
  refine lv_aload_n hx hb d_L_law_438 rfl (lv_at hl 0 rfl) ?_
  refine lv_iload hx hb d_L_law_439 (lv_at hl 4 rfl) ?_
  refine lv_iconst (v := (2 : Int32)) hx hb d_L_law_441 (by decide) ?_
  refine lv_iadd hx hb d_L_law_442 ?_
  obtain ⟨hi443, hF⟩ := tx_g hF
  refine va_sld hx hb hX hbl (Nat.not_le.mpr hbl) hS hi443 d_L_law_443 ?_
  refine lv_aload_n hx hb d_L_law_444 rfl (lv_at hl 0 rfl) ?_
  refine lv_iload hx hb d_L_law_445 (lv_at hl 4 rfl) ?_
  refine lv_iconst (v := (3 : Int32)) hx hb d_L_law_447 (by decide) ?_
  refine lv_iadd hx hb d_L_law_448 ?_
  obtain ⟨hi449, hF⟩ := tx_g hF
  refine va_sld hx hb hX hbl (Nat.not_le.mpr hbl) hS hi449 d_L_law_449 ?_
  refine lv_aload_n hx hb d_L_law_450 rfl (lv_at hl 0 rfl) ?_
  refine lv_iload hx hb d_L_law_451 (lv_at hl 4 rfl) ?_
  refine lv_iconst (v := (4 : Int32)) hx hb d_L_law_453 (by decide) ?_
  refine lv_iadd hx hb d_L_law_454 ?_
  obtain ⟨hi455, hF⟩ := tx_g hF
  refine va_sld hx hb hX hbl (Nat.not_le.mpr hbl) hS hi455 d_L_law_455 ?_
  obtain ⟨⟨r456, wd456⟩, hc456, hF⟩ := tx_b hF
  try dsimp only at hF
  have hPc := hP.sub (ws' := (wH cA cL h0 q1 q2 q3 q4 q5 q6 qo st pl tk wd er nx md ou)) [0, 1, 2, 3, 4, 5, 6, 15] rfl
  have hDc := hD.sub (ws' := (wH cA cL h0 q1 q2 q3 q4 q5 q6 qo st pl tk wd er nx md ou)) [0, 1, 2, 3, 4, 5, 6, 15] (by decide) rfl
  have hFc := va_free (wc := (wH cA cL h0 q1 q2 q3 q4 q5 q6 qo st pl tk wd er nx md ou)) hD hS hA [0, 1, 2, 3, 4, 5, 6, 15] rfl
  refine va_calli (tx_runSW (n := 5) (As := [.ref h0, .int (xs (v4 + (1 : Int32)).toNatClampNeg), .int (xs (v4 + (2 : Int32)).toNatClampNeg), .int (xs (v4 + (3 : Int32)).toNatClampNeg), .int (xs (v4 + (4 : Int32)).toNatClampNeg)]) (rest := []) ⟨hx, hb, hml, hown, hts⟩ (c_L_spoil l dC dI cA cL h0 q1 q2 q3 q4 q5 q6 qo H.size st pl tk wd er nx md ou (xs (v4 + (1 : Int32)).toNatClampNeg) (xs (v4 + (2 : Int32)).toNatClampNeg) (xs (v4 + (3 : Int32)).toNatClampNeg) (xs (v4 + (4 : Int32)).toNatClampNeg) r456 wd456 hc456 hfl) (tg_S bq_2_124 bq_2_125 bq_1_0 bq_2_126) rfl rfl rfl (by decide +kernel) ⟨Nat.le_of_ble_eq_true rfl, Nat.le_of_ble_eq_true rfl⟩ ⟨tx_blH, tx_preH hPc hDc hK hNw (tx_E_up hE hS)⟩ rfl rfl hl.1 rfl (lv_room (Nat.le_of_ble_eq_true rfl)) d_L_law_456 ⟨hkc, hks⟩) hS (fun q _ h => hFc q h) hFc (fun zz _u t H locs ht hvm hw hB hz1 hk1 hS => ?_)
  subst hw
  obtain ⟨hP1, hD1⟩ := hB
  rw [ht] at hP1
  obtain ⟨hP2, hD2⟩ := va_join (wr := [(g0, .inr (2, [.int mth, .ref g1, .ref g2, .ref g3, .ref g4, .ref g5, .ref g6, .ref g7, .int mnx, .int mmd, .int mwr])), (g1, .inl (cA, 31, .inl mrm)), (g2, .inl (cA, 80, .inl mfl)), (g3, .inl (cA, 16, .inl mus)), (g4, .inl (cA, 16, .inl mlg)), (g5, .inl (cA, 16, .inl mse)), (g6, .inl (cA, 4, .inl mwe)), (g7, .inl (cA, 8, .inl mwh))]) (w1 := (wH cA cL h0 q1 q2 q3 q4 q5 q6 qo st pl tk wd456 er nx md ou)) hP hD [0, 1, 2, 3, 4, 5, 6, 15] [7, 8, 9, 10, 11, 12, 13, 14] rfl rfl (by decide) (by decide) hk1 hFc hP1 hD1
  have hP := hP2.sub (ws' := (wW cA cL h0 q1 q2 q3 q4 q5 q6 g0 g1 g2 g3 g4 g5 g6 g7 qo st pl tk wd456 er mrm mfl mus mlg mse mwe mwh nx md mth mnx mmd mwr ou)) [8, 9, 10, 11, 12, 13, 14, 0, 1, 2, 3, 4, 5, 6, 7, 15] rfl
  have hD := hD2.sub (ws' := (wW cA cL h0 q1 q2 q3 q4 q5 q6 g0 g1 g2 g3 g4 g5 g6 g7 qo st pl tk wd456 er mrm mfl mus mlg mse mwe mwh nx md mth mnx mmd mwr ou)) [8, 9, 10, 11, 12, 13, 14, 0, 1, 2, 3, 4, 5, 6, 7, 15] (by decide) rfl
  refine lv_istore hx hb d_L_law_459 hl (by decide) rfl (fun ls hl => ?_)
  have hl : lv_has ls 8 [(5, .int r456), (0, .ref b), (1, .ref h0), (2, .ref g0), (3, .ref qo), (4, .int v4)] := hl
  refine lv_aload_n hx hb d_L_law_461 rfl (lv_at hl 3 rfl) ?_
  refine lv_aload_n hx hb d_L_law_462 rfl (lv_at hl 1 rfl) ?_
  refine lv_iload hx hb d_L_law_463 (lv_at hl 5 rfl) ?_
  refine lv_iconst (v := (1 : Int32)) hx hb d_L_law_465 (by decide) ?_
  refine lv_iadd hx hb d_L_law_466 ?_
  obtain ⟨hi467, hF⟩ := tx_g hF
  refine va_sld hx hb hX hbl (Nat.not_le.mpr hbl) hS hi467 d_L_law_467 ?_
  refine lv_aload_n hx hb d_L_law_468 rfl (lv_at hl 1 rfl) ?_
  refine lv_iload hx hb d_L_law_469 (lv_at hl 5 rfl) ?_
  refine lv_iconst (v := (2 : Int32)) hx hb d_L_law_471 (by decide) ?_
  refine lv_iadd hx hb d_L_law_472 ?_
  obtain ⟨hi473, hF⟩ := tx_g hF
  refine va_sld hx hb hX hbl (Nat.not_le.mpr hbl) hS hi473 d_L_law_473 ?_
  refine lv_aload_n hx hb d_L_law_474 rfl (lv_at hl 1 rfl) ?_
  refine lv_iload hx hb d_L_law_475 (lv_at hl 5 rfl) ?_
  refine lv_iconst (v := (3 : Int32)) hx hb d_L_law_477 (by decide) ?_
  refine lv_iadd hx hb d_L_law_478 ?_
  obtain ⟨hi479, hF⟩ := tx_g hF
  refine va_sld hx hb hX hbl (Nat.not_le.mpr hbl) hS hi479 d_L_law_479 ?_
  refine lv_aload_n hx hb d_L_law_480 rfl (lv_at hl 1 rfl) ?_
  refine lv_iload hx hb d_L_law_481 (lv_at hl 5 rfl) ?_
  refine lv_iconst (v := (4 : Int32)) hx hb d_L_law_483 (by decide) ?_
  refine lv_iadd hx hb d_L_law_484 ?_
  obtain ⟨hi485, hF⟩ := tx_g hF
  refine va_sld hx hb hX hbl (Nat.not_le.mpr hbl) hS hi485 d_L_law_485 ?_
  obtain ⟨⟨mfl486, mth486⟩, hc486, hF⟩ := tx_b hF
  try dsimp only at hF
  have hPc := hP.sub (ws' := (wR cA g0 g1 g2 g3 g4 g5 g6 g7 mrm mfl mus mlg mse mwe mwh mth mnx mmd mwr)) [7, 8, 9, 10, 11, 12, 13, 14] rfl
  have hDc := hD.sub (ws' := (wR cA g0 g1 g2 g3 g4 g5 g6 g7 mrm mfl mus mlg mse mwe mwh mth mnx mmd mwr)) [7, 8, 9, 10, 11, 12, 13, 14] (by decide) rfl
  have hFc := va_free (wc := (wR cA g0 g1 g2 g3 g4 g5 g6 g7 mrm mfl mus mlg mse mwe mwh mth mnx mmd mwr)) hD hS hA [7, 8, 9, 10, 11, 12, 13, 14] rfl
  refine va_callv (va_runV (As := [.int (xs (v4 + (1 : Int32)).toNatClampNeg), .int (xs (v4 + (2 : Int32)).toNatClampNeg), .int (xs (v4 + (3 : Int32)).toNatClampNeg), .int (xs (v4 + (4 : Int32)).toNatClampNeg)]) (rest := []) ⟨hx, hb, hml, hown, hts⟩ (c_R_spoil l dC dI cA g0 g1 g2 g3 g4 g5 g6 g7 H.size mrm mfl mus mlg mse mwe mwh mth mnx mmd mwr (xs (v4 + (1 : Int32)).toNatClampNeg) (xs (v4 + (2 : Int32)).toNatClampNeg) (xs (v4 + (3 : Int32)).toNatClampNeg) (xs (v4 + (4 : Int32)).toNatClampNeg) mfl486 mth486 hc486) (cwV 4 hts (tg_V bq_3_88 bq_3_89 bq_3_90 bq_1_4 bq_3_91) rfl rfl rfl (by decide +kernel) ⟨Nat.le_of_ble_eq_true rfl, Nat.le_of_ble_eq_true rfl⟩) ⟨tx_blW, (va_recv (ci := 2) (q0 := 7) hK hP rfl rfl), tx_preW hPc hDc hK1 hNw⟩ rfl rfl hl.1 rfl (lv_room (Nat.le_of_ble_eq_true rfl)) d_L_law_486 ⟨hkc, hks⟩) hS (fun q _ h => hFc q h) hFc (fun _u t H locs ht hvm hw hB hz1 hk1 hS => ?_)
  obtain ⟨hP1, hD1⟩ := hB
  rw [ht] at hP1
  obtain ⟨hP2, hD2⟩ := va_join (wr := [(h0, .inr (1, [.ref q1, .ref q2, .ref q3, .ref q4, .int nx, .int md])), (q1, .inr (0, [.ref q5, .ref q6])), (q2, .inl (cA, 16, .inl st)), (q3, .inl (cA, 8, .inl pl)), (q4, .inl (cA, 8, .inl tk)), (q5, .inl (cA, 80, .inl wd456)), (q6, .inl (cA, 4, .inl er)), (qo, .inl (cL, 1, .inr (.inl ou)))]) (w1 := (wR cA g0 g1 g2 g3 g4 g5 g6 g7 mrm mfl486 mus mlg mse mwe mwh mth486 mnx mmd mwr)) hP hD [7, 8, 9, 10, 11, 12, 13, 14] [0, 1, 2, 3, 4, 5, 6, 15] rfl rfl (by decide) (by decide) hk1 hFc hP1 hD1
  have hP := hP2.sub (ws' := (wW cA cL h0 q1 q2 q3 q4 q5 q6 g0 g1 g2 g3 g4 g5 g6 g7 qo st pl tk wd456 er mrm mfl486 mus mlg mse mwe mwh nx md mth486 mnx mmd mwr ou)) [0, 1, 2, 3, 4, 5, 6, 8, 9, 10, 11, 12, 13, 14, 15, 7] rfl
  have hD := hD2.sub (ws' := (wW cA cL h0 q1 q2 q3 q4 q5 q6 g0 g1 g2 g3 g4 g5 g6 g7 qo st pl tk wd456 er mrm mfl486 mus mlg mse mwe mwh nx md mth486 mnx mmd mwr ou)) [0, 1, 2, 3, 4, 5, 6, 8, 9, 10, 11, 12, 13, 14, 15, 7] (by decide) rfl
  refine lv_aload_n hx hb d_L_law_489 rfl (lv_at hl 3 rfl) ?_
  obtain ⟨r490, hc490, hF⟩ := tx_b hF
  refine vp_callSi (W.runV (As := []) (rest := []) ⟨hx, hb, hml, hown, hts⟩ (c_R_thrown l dC dI cA g0 g1 g2 g3 g4 g5 g6 g7 mrm mfl486 mus mlg mse mwe mwh mth486 mnx mmd mwr r490 hc490) (cwV 0 hts (tg_V bq_2_226 bq_2_227 bq_2_228 bq_1_4 bq_2_229) rfl rfl rfl (by decide +kernel) ⟨Nat.le_of_ble_eq_true rfl, Nat.le_of_ble_eq_true rfl⟩) ⟨tx_blR, (va_recv (ci := 2) (q0 := 7) hK hP rfl rfl), tx_preR (hP.sub (ws' := (wR cA g0 g1 g2 g3 g4 g5 g6 g7 mrm mfl486 mus mlg mse mwe mwh mth486 mnx mmd mwr)) [7, 8, 9, 10, 11, 12, 13, 14] rfl) hK1⟩ rfl rfl hl.1 rfl (lv_room (Nat.le_of_ble_eq_true rfl)) d_L_law_490 ⟨hkc, hks⟩) (fun zz hz => ?_)
  subst hz
  refine lv_iload hx hb d_L_law_493 (lv_at hl 0 rfl) ?_
  refine lv_icmp_eq hx hb d_L_law_495 (tgt := 500) (by decide) (fun h495 => ?_) (fun h495 => ?_)
  · have hF := tx_t h495 hF
    refine lv_goto hx hb d_L_law_500 (tgt := 833) (by decide) ?_
    cases hF
    exact hnext _ _ _ hP hD hS (lv_sub hl [1, 2, 3, 4, 5] rfl)
  · have hF := tx_f h495 hF
    refine lv_iconst (v := (0 : Int32)) hx hb d_L_law_498 (by decide) ?_
    cases hF
def f_W503_J580 (L : Nat) (xs : Nat → Int32) (v4 : Int32) (st : Nat → Int32) (pl : Nat → Int32) (tk : Nat → Int32) (wd : Nat → Int32) (er : Nat → Int32) (mrm : Nat → Int32) (mfl : Nat → Int32) (mus : Nat → Int32) (mlg : Nat → Int32) (mse : Nat → Int32) (mwe : Nat → Int32) (mwh : Nat → Int32) (nx : Int32) (md : Int32) (mth : Int32) (mnx : Int32) (mmd : Int32) (mwr : Int32) (ou : Nat → Int64)  : Option ((Nat → Int32) × (Nat → Int32) × (Nat → Int32) × (Nat → Int32) × (Nat → Int32) × (Nat → Int32) × (Nat → Int32) × (Nat → Int32) × (Nat → Int32) × (Nat → Int32) × (Nat → Int32) × (Nat → Int32) × Int32 × Int32 × Int32 × Int32 × Int32 × Int32 × (Nat → Int64)) := some (st, pl, tk, wd, er, mrm, mfl, mus, mlg, mse, mwe, mwh, nx, md, mth, mnx, mmd, mwr, ou)
def f_W503 (L : Nat) (xs : Nat → Int32) (st : Nat → Int32) (pl : Nat → Int32) (tk : Nat → Int32) (wd : Nat → Int32) (er : Nat → Int32) (mrm : Nat → Int32) (mfl : Nat → Int32) (mus : Nat → Int32) (mlg : Nat → Int32) (mse : Nat → Int32) (mwe : Nat → Int32) (mwh : Nat → Int32) (nx : Int32) (md : Int32) (mth : Int32) (mnx : Int32) (mmd : Int32) (mwr : Int32) (ou : Nat → Int64) (v4 : Int32) : Option ((Nat → Int32) × (Nat → Int32) × (Nat → Int32) × (Nat → Int32) × (Nat → Int32) × (Nat → Int32) × (Nat → Int32) × (Nat → Int32) × (Nat → Int32) × (Nat → Int32) × (Nat → Int32) × (Nat → Int32) × Int32 × Int32 × Int32 × Int32 × Int32 × Int32 × (Nat → Int64)) := if (v4 + (1 : Int32)) < 0 ∨ L ≤ (v4 + (1 : Int32)).toNatClampNeg then none else if (v4 + (2 : Int32)) < 0 ∨ L ≤ (v4 + (2 : Int32)).toNatClampNeg then none else if (v4 + (3 : Int32)) < 0 ∨ L ≤ (v4 + (3 : Int32)).toNatClampNeg then none else (f_L_flash wd ou (xs (v4 + (1 : Int32)).toNatClampNeg) (xs (v4 + (2 : Int32)).toNatClampNeg) (xs (v4 + (3 : Int32)).toNatClampNeg)).bind fun (r523, ou523) => if (v4 + (1 : Int32)) < 0 ∨ L ≤ (v4 + (1 : Int32)).toNatClampNeg then none else if (v4 + (2 : Int32)) < 0 ∨ L ≤ (v4 + (2 : Int32)).toNatClampNeg then none else if (v4 + (3 : Int32)) < 0 ∨ L ≤ (v4 + (3 : Int32)).toNatClampNeg then none else (f_R_flash mfl mth (xs (v4 + (1 : Int32)).toNatClampNeg) (xs (v4 + (2 : Int32)).toNatClampNeg) (xs (v4 + (3 : Int32)).toNatClampNeg)).bind fun (r547, mth547) => (f_R_thrown mth547).bind fun r553 => if r553 = r523 then (if r523 = 0 then (if (0 : Int32) < 0 ∨ 1 ≤ (0 : Int32).toNatClampNeg then none else if (lg_cmp (ou523 (0 : Int32).toNatClampNeg) r547.toInt64) = 0 then (f_W503_J580 L xs v4 st pl tk wd er mrm mfl mus mlg mse mwe mwh nx md mth547 mnx mmd mwr ou523) else (none)) else (f_W503_J580 L xs v4 st pl tk wd er mrm mfl mus mlg mse mwe mwh nx md mth547 mnx mmd mwr ou523)) else (none)
set_option maxHeartbeats 4000000 in
set_option maxRecDepth 100000 in
theorem cs_503 {p : Program} {l : Launch} {e : Env} {s : State} {m : MethodId} {args : Array Value} {below : List Frame} {meth : Method} {c : Code} {Q : State → Prop} {c1 : Cond} (hx : p.tables.exec = Jvm.exec) (hb : c.code = b_L_law) (hml : c.maxLocals = 8) (hown : s.vm.findClass "FlashStoreLaw" = some m.cls) (hts : ∀ w ∈ c1 :: bw, w.before args s = true) (hfl : l.flags = pinnedFlags ++ [noTraceFlag]) {dC : Nat → ClassId} {dI : Nat → Nat → Nat} {cA cL : ClassId} (hK : va_K (dC, dI) vwCl [(cA, .int), (cL, .long)] s) (hNw : va_Nw tx_nest s) (hE : tx_E s) {b L : Nat} {xs : Nat → Int32} (hX : va_X b L xs s s.heap) (hbl : b < s.heap.size) (h0 q1 q2 q3 q4 q5 q6 g0 g1 g2 g3 g4 g5 g6 g7 qo : Nat) (st pl tk wd er mrm mfl mus mlg mse mwe mwh : Nat → Int32) (nx md mth mnx mmd mwr : Int32) (ou : Nat → Int64) (v4 : Int32) (kc ks : Nat) (hkc : kc + 1 ≤ 601024) (hks : ks + 6 ≤ 7293034) (st' : Nat → Int32) (pl' : Nat → Int32) (tk' : Nat → Int32) (wd' : Nat → Int32) (er' : Nat → Int32) (mrm' : Nat → Int32) (mfl' : Nat → Int32) (mus' : Nat → Int32) (mlg' : Nat → Int32) (mse' : Nat → Int32) (mwe' : Nat → Int32) (mwh' : Nat → Int32) (nx' : Int32) (md' : Int32) (mth' : Int32) (mnx' : Int32) (mmd' : Int32) (mwr' : Int32) (ou' : Nat → Int64) (hF : f_W503 L xs st pl tk wd er mrm mfl mus mlg mse mwe mwh nx md mth mnx mmd mwr ou v4 = some (st', pl', tk', wd', er', mrm', mfl', mus', mlg', mse', mwe', mwh', nx', md', mth', mnx', mmd', mwr', ou')) (hnext : ∀ (H : Heap) (locs : List Loc) (ls : Array Slot), va_P (dC, dI) vwCl (wW cA cL h0 q1 q2 q3 q4 q5 q6 g0 g1 g2 g3 g4 g5 g6 g7 qo (st') (pl') (tk') (wd') (er') (mrm') (mfl') (mus') (mlg') (mse') (mwe') (mwh') (nx') (md') (mth') (mnx') (mmd') (mwr') (ou')) H → va_D (fun q => s.heap.size ≤ q) (wW cA cL h0 q1 q2 q3 q4 q5 q6 g0 g1 g2 g3 g4 g5 g6 g7 qo (st') (pl') (tk') (wd') (er') (mrm') (mfl') (mus') (mlg') (mse') (mwe') (mwh') (nx') (md') (mth') (mnx') (mmd') (mwr') (ou')) → va_S (fun q => s.heap.size ≤ q) s.heap H locs → lv_has ls 8 [(0, .ref b), (1, .ref h0), (2, .ref g0), (3, .ref qo), (4, .int v4)] → W p l e room_1 s m args below meth c H locs (kc + 1) (ks + 6) Q (F0 m 833 ls [])) (H : Heap) (locs : List Loc) (ls : Array Slot) (hP : va_P (dC, dI) vwCl (wW cA cL h0 q1 q2 q3 q4 q5 q6 g0 g1 g2 g3 g4 g5 g6 g7 qo st pl tk wd er mrm mfl mus mlg mse mwe mwh nx md mth mnx mmd mwr ou) H) (hD : va_D (fun q => s.heap.size ≤ q) (wW cA cL h0 q1 q2 q3 q4 q5 q6 g0 g1 g2 g3 g4 g5 g6 g7 qo st pl tk wd er mrm mfl mus mlg mse mwe mwh nx md mth mnx mmd mwr ou)) (hS : va_S (fun q => s.heap.size ≤ q) s.heap H locs) (hl : lv_has ls 8 [(0, .ref b), (1, .ref h0), (2, .ref g0), (3, .ref qo), (4, .int v4)]) : W p l e room_1 s m args below meth c H locs kc ks Q (F0 m 503 ls []) := by
  have hK1 : va_K (dC, dI) vwCl [(cA, .int)] s := hK.sub [0] rfl
  have hA : ∀ q : Nat, s.heap.size ≤ q → s.heap.size ≤ q := fun _ h => h
  have J580 : ∀ (H : Heap) (locs : List Loc) (ls : Array Slot) (st : Nat → Int32) (pl : Nat → Int32) (tk : Nat → Int32) (wd : Nat → Int32) (er : Nat → Int32) (mrm : Nat → Int32) (mfl : Nat → Int32) (mus : Nat → Int32) (mlg : Nat → Int32) (mse : Nat → Int32) (mwe : Nat → Int32) (mwh : Nat → Int32) (nx : Int32) (md : Int32) (mth : Int32) (mnx : Int32) (mmd : Int32) (mwr : Int32) (ou : Nat → Int64), va_P (dC, dI) vwCl (wW cA cL h0 q1 q2 q3 q4 q5 q6 g0 g1 g2 g3 g4 g5 g6 g7 qo st pl tk wd er mrm mfl mus mlg mse mwe mwh nx md mth mnx mmd mwr ou) H → va_D (fun q => s.heap.size ≤ q) (wW cA cL h0 q1 q2 q3 q4 q5 q6 g0 g1 g2 g3 g4 g5 g6 g7 qo st pl tk wd er mrm mfl mus mlg mse mwe mwh nx md mth mnx mmd mwr ou) → va_S (fun q => s.heap.size ≤ q) s.heap H locs → lv_has ls 8 [(0, .ref b), (1, .ref h0), (2, .ref g0), (3, .ref qo), (4, .int v4)] → f_W503_J580 L xs v4 st pl tk wd er mrm mfl mus mlg mse mwe mwh nx md mth mnx mmd mwr ou = some (st', pl', tk', wd', er', mrm', mfl', mus', mlg', mse', mwe', mwh', nx', md', mth', mnx', mmd', mwr', ou') → W p l e room_1 s m args below meth c H locs (kc + 1) (ks + 6) Q (F0 m 580 ls []) := by
    intro H locs ls st pl tk wd er mrm mfl mus mlg mse mwe mwh nx md mth mnx mmd mwr ou hP hD hS hl hF
    have hF : (some (st, pl, tk, wd, er, mrm, mfl, mus, mlg, mse, mwe, mwh, nx, md, mth, mnx, mmd, mwr, ou)) = some (st', pl', tk', wd', er', mrm', mfl', mus', mlg', mse', mwe', mwh', nx', md', mth', mnx', mmd', mwr', ou') := hF
    refine lv_goto hx hb d_L_law_580 (tgt := 833) (by decide) ?_
    cases hF
    exact hnext _ _ _ hP hD hS (lv_sub hl [0, 1, 2, 3, 4] rfl)
  have hF : (if (v4 + (1 : Int32)) < 0 ∨ L ≤ (v4 + (1 : Int32)).toNatClampNeg then none else if (v4 + (2 : Int32)) < 0 ∨ L ≤ (v4 + (2 : Int32)).toNatClampNeg then none else if (v4 + (3 : Int32)) < 0 ∨ L ≤ (v4 + (3 : Int32)).toNatClampNeg then none else (f_L_flash wd ou (xs (v4 + (1 : Int32)).toNatClampNeg) (xs (v4 + (2 : Int32)).toNatClampNeg) (xs (v4 + (3 : Int32)).toNatClampNeg)).bind fun (r523, ou523) => if (v4 + (1 : Int32)) < 0 ∨ L ≤ (v4 + (1 : Int32)).toNatClampNeg then none else if (v4 + (2 : Int32)) < 0 ∨ L ≤ (v4 + (2 : Int32)).toNatClampNeg then none else if (v4 + (3 : Int32)) < 0 ∨ L ≤ (v4 + (3 : Int32)).toNatClampNeg then none else (f_R_flash mfl mth (xs (v4 + (1 : Int32)).toNatClampNeg) (xs (v4 + (2 : Int32)).toNatClampNeg) (xs (v4 + (3 : Int32)).toNatClampNeg)).bind fun (r547, mth547) => (f_R_thrown mth547).bind fun r553 => if r553 = r523 then (if r523 = 0 then (if (0 : Int32) < 0 ∨ 1 ≤ (0 : Int32).toNatClampNeg then none else if (lg_cmp (ou523 (0 : Int32).toNatClampNeg) r547.toInt64) = 0 then (f_W503_J580 L xs v4 st pl tk wd er mrm mfl mus mlg mse mwe mwh nx md mth547 mnx mmd mwr ou523) else (none)) else (f_W503_J580 L xs v4 st pl tk wd er mrm mfl mus mlg mse mwe mwh nx md mth547 mnx mmd mwr ou523)) else (none)) = some (st', pl', tk', wd', er', mrm', mfl', mus', mlg', mse', mwe', mwh', nx', md', mth', mnx', mmd', mwr', ou') := hF
  refine lv_aload_n hx hb d_L_law_503 rfl (lv_at hl 1 rfl) ?_
  refine lv_aload_n hx hb d_L_law_504 rfl (lv_at hl 0 rfl) ?_
  refine lv_iload hx hb d_L_law_505 (lv_at hl 4 rfl) ?_
  refine lv_iconst (v := (1 : Int32)) hx hb d_L_law_507 (by decide) ?_
  refine lv_iadd hx hb d_L_law_508 ?_
  obtain ⟨hi509, hF⟩ := tx_g hF
  refine va_sld hx hb hX hbl (Nat.not_le.mpr hbl) hS hi509 d_L_law_509 ?_
  refine lv_aload_n hx hb d_L_law_510 rfl (lv_at hl 0 rfl) ?_
  refine lv_iload hx hb d_L_law_511 (lv_at hl 4 rfl) ?_
  refine lv_iconst (v := (2 : Int32)) hx hb d_L_law_513 (by decide) ?_
  refine lv_iadd hx hb d_L_law_514 ?_
  obtain ⟨hi515, hF⟩ := tx_g hF
  refine va_sld hx hb hX hbl (Nat.not_le.mpr hbl) hS hi515 d_L_law_515 ?_
  refine lv_aload_n hx hb d_L_law_516 rfl (lv_at hl 0 rfl) ?_
  refine lv_iload hx hb d_L_law_517 (lv_at hl 4 rfl) ?_
  refine lv_iconst (v := (3 : Int32)) hx hb d_L_law_519 (by decide) ?_
  refine lv_iadd hx hb d_L_law_520 ?_
  obtain ⟨hi521, hF⟩ := tx_g hF
  refine va_sld hx hb hX hbl (Nat.not_le.mpr hbl) hS hi521 d_L_law_521 ?_
  refine lv_aload_n hx hb d_L_law_522 rfl (lv_at hl 3 rfl) ?_
  obtain ⟨⟨r523, ou523⟩, hc523, hF⟩ := tx_b hF
  try dsimp only at hF
  have hPc := hP.sub (ws' := (wH cA cL h0 q1 q2 q3 q4 q5 q6 qo st pl tk wd er nx md ou)) [0, 1, 2, 3, 4, 5, 6, 15] rfl
  have hDc := hD.sub (ws' := (wH cA cL h0 q1 q2 q3 q4 q5 q6 qo st pl tk wd er nx md ou)) [0, 1, 2, 3, 4, 5, 6, 15] (by decide) rfl
  have hFc := va_free (wc := (wH cA cL h0 q1 q2 q3 q4 q5 q6 qo st pl tk wd er nx md ou)) hD hS hA [0, 1, 2, 3, 4, 5, 6, 15] rfl
  refine va_calli (tx_runSW (n := 5) (As := [.ref h0, .int (xs (v4 + (1 : Int32)).toNatClampNeg), .int (xs (v4 + (2 : Int32)).toNatClampNeg), .int (xs (v4 + (3 : Int32)).toNatClampNeg), .ref qo]) (rest := []) ⟨hx, hb, hml, hown, hts⟩ (c_L_flash l dC dI cA cL h0 q1 q2 q3 q4 q5 q6 qo H.size st pl tk wd er nx md ou (xs (v4 + (1 : Int32)).toNatClampNeg) (xs (v4 + (2 : Int32)).toNatClampNeg) (xs (v4 + (3 : Int32)).toNatClampNeg) r523 ou523 hc523 hfl) (tg_S bq_2_147 bq_2_148 bq_1_0 bq_2_149) rfl rfl rfl (by decide +kernel) ⟨Nat.le_of_ble_eq_true rfl, Nat.le_of_ble_eq_true rfl⟩ ⟨tx_blH, tx_preH hPc hDc hK hNw (tx_E_up hE hS)⟩ rfl rfl hl.1 rfl (lv_room (Nat.le_of_ble_eq_true rfl)) d_L_law_523 ⟨hkc, hks⟩) hS (fun q _ h => hFc q h) hFc (fun zz _u t H locs ht hvm hw hB hz1 hk1 hS => ?_)
  subst hw
  obtain ⟨hP1, hD1⟩ := hB
  rw [ht] at hP1
  obtain ⟨hP2, hD2⟩ := va_join (wr := [(g0, .inr (2, [.int mth, .ref g1, .ref g2, .ref g3, .ref g4, .ref g5, .ref g6, .ref g7, .int mnx, .int mmd, .int mwr])), (g1, .inl (cA, 31, .inl mrm)), (g2, .inl (cA, 80, .inl mfl)), (g3, .inl (cA, 16, .inl mus)), (g4, .inl (cA, 16, .inl mlg)), (g5, .inl (cA, 16, .inl mse)), (g6, .inl (cA, 4, .inl mwe)), (g7, .inl (cA, 8, .inl mwh))]) (w1 := (wH cA cL h0 q1 q2 q3 q4 q5 q6 qo st pl tk wd er nx md ou523)) hP hD [0, 1, 2, 3, 4, 5, 6, 15] [7, 8, 9, 10, 11, 12, 13, 14] rfl rfl (by decide) (by decide) hk1 hFc hP1 hD1
  have hP := hP2.sub (ws' := (wW cA cL h0 q1 q2 q3 q4 q5 q6 g0 g1 g2 g3 g4 g5 g6 g7 qo st pl tk wd er mrm mfl mus mlg mse mwe mwh nx md mth mnx mmd mwr ou523)) [8, 9, 10, 11, 12, 13, 14, 0, 1, 2, 3, 4, 5, 6, 7, 15] rfl
  have hD := hD2.sub (ws' := (wW cA cL h0 q1 q2 q3 q4 q5 q6 g0 g1 g2 g3 g4 g5 g6 g7 qo st pl tk wd er mrm mfl mus mlg mse mwe mwh nx md mth mnx mmd mwr ou523)) [8, 9, 10, 11, 12, 13, 14, 0, 1, 2, 3, 4, 5, 6, 7, 15] (by decide) rfl
  refine lv_istore hx hb d_L_law_526 hl (by decide) rfl (fun ls hl => ?_)
  have hl : lv_has ls 8 [(5, .int r523), (0, .ref b), (1, .ref h0), (2, .ref g0), (3, .ref qo), (4, .int v4)] := hl
  refine lv_aload_n hx hb d_L_law_528 rfl (lv_at hl 3 rfl) ?_
  refine lv_aload_n hx hb d_L_law_529 rfl (lv_at hl 1 rfl) ?_
  refine lv_iload hx hb d_L_law_530 (lv_at hl 5 rfl) ?_
  refine lv_iconst (v := (1 : Int32)) hx hb d_L_law_532 (by decide) ?_
  refine lv_iadd hx hb d_L_law_533 ?_
  obtain ⟨hi534, hF⟩ := tx_g hF
  refine va_sld hx hb hX hbl (Nat.not_le.mpr hbl) hS hi534 d_L_law_534 ?_
  refine lv_aload_n hx hb d_L_law_535 rfl (lv_at hl 1 rfl) ?_
  refine lv_iload hx hb d_L_law_536 (lv_at hl 5 rfl) ?_
  refine lv_iconst (v := (2 : Int32)) hx hb d_L_law_538 (by decide) ?_
  refine lv_iadd hx hb d_L_law_539 ?_
  obtain ⟨hi540, hF⟩ := tx_g hF
  refine va_sld hx hb hX hbl (Nat.not_le.mpr hbl) hS hi540 d_L_law_540 ?_
  refine lv_aload_n hx hb d_L_law_541 rfl (lv_at hl 1 rfl) ?_
  refine lv_iload hx hb d_L_law_542 (lv_at hl 5 rfl) ?_
  refine lv_iconst (v := (3 : Int32)) hx hb d_L_law_544 (by decide) ?_
  refine lv_iadd hx hb d_L_law_545 ?_
  obtain ⟨hi546, hF⟩ := tx_g hF
  refine va_sld hx hb hX hbl (Nat.not_le.mpr hbl) hS hi546 d_L_law_546 ?_
  obtain ⟨⟨r547, mth547⟩, hc547, hF⟩ := tx_b hF
  try dsimp only at hF
  have hPc := hP.sub (ws' := (wR cA g0 g1 g2 g3 g4 g5 g6 g7 mrm mfl mus mlg mse mwe mwh mth mnx mmd mwr)) [7, 8, 9, 10, 11, 12, 13, 14] rfl
  have hDc := hD.sub (ws' := (wR cA g0 g1 g2 g3 g4 g5 g6 g7 mrm mfl mus mlg mse mwe mwh mth mnx mmd mwr)) [7, 8, 9, 10, 11, 12, 13, 14] (by decide) rfl
  have hFc := va_free (wc := (wR cA g0 g1 g2 g3 g4 g5 g6 g7 mrm mfl mus mlg mse mwe mwh mth mnx mmd mwr)) hD hS hA [7, 8, 9, 10, 11, 12, 13, 14] rfl
  refine va_calli (va_runV (As := [.int (xs (v4 + (1 : Int32)).toNatClampNeg), .int (xs (v4 + (2 : Int32)).toNatClampNeg), .int (xs (v4 + (3 : Int32)).toNatClampNeg)]) (rest := []) ⟨hx, hb, hml, hown, hts⟩ (c_R_flash l dC dI cA g0 g1 g2 g3 g4 g5 g6 g7 H.size mrm mfl mus mlg mse mwe mwh mth mnx mmd mwr (xs (v4 + (1 : Int32)).toNatClampNeg) (xs (v4 + (2 : Int32)).toNatClampNeg) (xs (v4 + (3 : Int32)).toNatClampNeg) r547 mth547 hc547) (cwV 3 hts (tg_V bq_3_95 bq_3_96 bq_3_97 bq_1_4 bq_3_98) rfl rfl rfl (by decide +kernel) ⟨Nat.le_of_ble_eq_true rfl, Nat.le_of_ble_eq_true rfl⟩) ⟨tx_blW, (va_recv (ci := 2) (q0 := 7) hK hP rfl rfl), tx_preW hPc hDc hK1 hNw⟩ rfl rfl hl.1 rfl (lv_room (Nat.le_of_ble_eq_true rfl)) d_L_law_547 ⟨hkc, hks⟩) hS (fun q _ h => hFc q h) hFc (fun zz _u t H locs ht hvm hw hB hz1 hk1 hS => ?_)
  subst hw
  obtain ⟨hP1, hD1⟩ := hB
  rw [ht] at hP1
  obtain ⟨hP2, hD2⟩ := va_join (wr := [(h0, .inr (1, [.ref q1, .ref q2, .ref q3, .ref q4, .int nx, .int md])), (q1, .inr (0, [.ref q5, .ref q6])), (q2, .inl (cA, 16, .inl st)), (q3, .inl (cA, 8, .inl pl)), (q4, .inl (cA, 8, .inl tk)), (q5, .inl (cA, 80, .inl wd)), (q6, .inl (cA, 4, .inl er)), (qo, .inl (cL, 1, .inr (.inl ou523)))]) (w1 := (wR cA g0 g1 g2 g3 g4 g5 g6 g7 mrm mfl mus mlg mse mwe mwh mth547 mnx mmd mwr)) hP hD [7, 8, 9, 10, 11, 12, 13, 14] [0, 1, 2, 3, 4, 5, 6, 15] rfl rfl (by decide) (by decide) hk1 hFc hP1 hD1
  have hP := hP2.sub (ws' := (wW cA cL h0 q1 q2 q3 q4 q5 q6 g0 g1 g2 g3 g4 g5 g6 g7 qo st pl tk wd er mrm mfl mus mlg mse mwe mwh nx md mth547 mnx mmd mwr ou523)) [0, 1, 2, 3, 4, 5, 6, 8, 9, 10, 11, 12, 13, 14, 15, 7] rfl
  have hD := hD2.sub (ws' := (wW cA cL h0 q1 q2 q3 q4 q5 q6 g0 g1 g2 g3 g4 g5 g6 g7 qo st pl tk wd er mrm mfl mus mlg mse mwe mwh nx md mth547 mnx mmd mwr ou523)) [0, 1, 2, 3, 4, 5, 6, 8, 9, 10, 11, 12, 13, 14, 15, 7] (by decide) rfl
  refine lv_istore hx hb d_L_law_550 hl (by decide) rfl (fun ls hl => ?_)
  have hl : lv_has ls 8 [(6, .int r547), (5, .int r523), (0, .ref b), (1, .ref h0), (2, .ref g0), (3, .ref qo), (4, .int v4)] := hl
  refine lv_aload_n hx hb d_L_law_552 rfl (lv_at hl 4 rfl) ?_
  obtain ⟨r553, hc553, hF⟩ := tx_b hF
  refine vp_callSi (W.runV (As := []) (rest := []) ⟨hx, hb, hml, hown, hts⟩ (c_R_thrown l dC dI cA g0 g1 g2 g3 g4 g5 g6 g7 mrm mfl mus mlg mse mwe mwh mth547 mnx mmd mwr r553 hc553) (cwV 0 hts (tg_V bq_2_226 bq_2_227 bq_2_228 bq_1_4 bq_2_229) rfl rfl rfl (by decide +kernel) ⟨Nat.le_of_ble_eq_true rfl, Nat.le_of_ble_eq_true rfl⟩) ⟨tx_blR, (va_recv (ci := 2) (q0 := 7) hK hP rfl rfl), tx_preR (hP.sub (ws' := (wR cA g0 g1 g2 g3 g4 g5 g6 g7 mrm mfl mus mlg mse mwe mwh mth547 mnx mmd mwr)) [7, 8, 9, 10, 11, 12, 13, 14] rfl) hK1⟩ rfl rfl hl.1 rfl (lv_room (Nat.le_of_ble_eq_true rfl)) d_L_law_553 ⟨hkc, hks⟩) (fun zz hz => ?_)
  subst hz
  refine lv_iload hx hb d_L_law_556 (lv_at hl 1 rfl) ?_
  refine lv_icmp_eq hx hb d_L_law_558 (tgt := 563) (by decide) (fun h558 => ?_) (fun h558 => ?_)
  · have hF := tx_t h558 hF
    refine lv_iload hx hb d_L_law_563 (lv_at hl 1 rfl) ?_
    refine lv_if_ne hx hb d_L_law_565 (tgt := 580) (by decide) (fun h565 => ?_) (fun h565 => ?_)
    · have hF := tx_f h565 hF
      exact J580 _ _ _ st pl tk wd er mrm mfl mus mlg mse mwe mwh nx md mth547 mnx mmd mwr ou523 hP hD hS (lv_sub hl [2, 3, 4, 5, 6] rfl) hF
    · have hF := tx_t h565 hF
      refine lv_aload_n hx hb d_L_law_568 rfl (lv_at hl 5 rfl) ?_
      refine lv_iconst (v := (0 : Int32)) hx hb d_L_law_569 (by decide) ?_
      obtain ⟨hi570, hF⟩ := tx_g hF
      refine va_lald hx hb hK hP 15 1 rfl rfl hi570 d_L_law_570 ?_
      refine lv_iload hx hb d_L_law_571 (lv_at hl 0 rfl) ?_
      refine lv_i2l hx hb d_L_law_573 rfl ?_
      refine W.lcmp hx hb d_L_law_574 ?_
      refine lv_if_eq hx hb d_L_law_575 (tgt := 580) (by decide) (fun h575 => ?_) (fun h575 => ?_)
      · have hF := tx_t h575 hF
        exact J580 _ _ _ st pl tk wd er mrm mfl mus mlg mse mwe mwh nx md mth547 mnx mmd mwr ou523 hP hD hS (lv_sub hl [2, 3, 4, 5, 6] rfl) hF
      · have hF := tx_f h575 hF
        refine lv_iconst (v := (0 : Int32)) hx hb d_L_law_578 (by decide) ?_
        cases hF
  · have hF := tx_f h558 hF
    refine lv_iconst (v := (0 : Int32)) hx hb d_L_law_561 (by decide) ?_
    cases hF
def f_W583 (L : Nat) (xs : Nat → Int32) (st : Nat → Int32) (pl : Nat → Int32) (tk : Nat → Int32) (wd : Nat → Int32) (er : Nat → Int32) (mrm : Nat → Int32) (mfl : Nat → Int32) (mus : Nat → Int32) (mlg : Nat → Int32) (mse : Nat → Int32) (mwe : Nat → Int32) (mwh : Nat → Int32) (nx : Int32) (md : Int32) (mth : Int32) (mnx : Int32) (mmd : Int32) (mwr : Int32) (ou : Nat → Int64) (v4 : Int32) : Option ((Nat → Int32) × (Nat → Int32) × (Nat → Int32) × (Nat → Int32) × (Nat → Int32) × (Nat → Int32) × (Nat → Int32) × (Nat → Int32) × (Nat → Int32) × (Nat → Int32) × (Nat → Int32) × (Nat → Int32) × Int32 × Int32 × Int32 × Int32 × Int32 × Int32 × (Nat → Int64)) := (f_F_mount st pl tk wd nx).bind fun (r584, st584, pl584, tk584, nx584) => (f_R_mount mrm mfl mus mlg mse mwh mth mnx mwr).bind fun (r588, mus588, mlg588, mse588, mwh588, mth588, mnx588, mwr588) => if r584 = r588 then (some (st584, pl584, tk584, wd, er, mrm, mfl, mus588, mlg588, mse588, mwe, mwh588, nx584, md, mth588, mnx588, mmd, mwr588, ou)) else (none)
set_option maxHeartbeats 4000000 in
set_option maxRecDepth 100000 in
theorem cs_583 {p : Program} {l : Launch} {e : Env} {s : State} {m : MethodId} {args : Array Value} {below : List Frame} {meth : Method} {c : Code} {Q : State → Prop} {c1 : Cond} (hx : p.tables.exec = Jvm.exec) (hb : c.code = b_L_law) (hml : c.maxLocals = 8) (hown : s.vm.findClass "FlashStoreLaw" = some m.cls) (hts : ∀ w ∈ c1 :: bw, w.before args s = true) (hfl : l.flags = pinnedFlags ++ [noTraceFlag]) {dC : Nat → ClassId} {dI : Nat → Nat → Nat} {cA cL : ClassId} (hK : va_K (dC, dI) vwCl [(cA, .int), (cL, .long)] s) (hNw : va_Nw tx_nest s) (hE : tx_E s) {b L : Nat} {xs : Nat → Int32} (hX : va_X b L xs s s.heap) (hbl : b < s.heap.size) (h0 q1 q2 q3 q4 q5 q6 g0 g1 g2 g3 g4 g5 g6 g7 qo : Nat) (st pl tk wd er mrm mfl mus mlg mse mwe mwh : Nat → Int32) (nx md mth mnx mmd mwr : Int32) (ou : Nat → Int64) (v4 : Int32) (kc ks : Nat) (hkc : kc + 1 ≤ 601024) (hks : ks + 6 ≤ 7293034) (st' : Nat → Int32) (pl' : Nat → Int32) (tk' : Nat → Int32) (wd' : Nat → Int32) (er' : Nat → Int32) (mrm' : Nat → Int32) (mfl' : Nat → Int32) (mus' : Nat → Int32) (mlg' : Nat → Int32) (mse' : Nat → Int32) (mwe' : Nat → Int32) (mwh' : Nat → Int32) (nx' : Int32) (md' : Int32) (mth' : Int32) (mnx' : Int32) (mmd' : Int32) (mwr' : Int32) (ou' : Nat → Int64) (hF : f_W583 L xs st pl tk wd er mrm mfl mus mlg mse mwe mwh nx md mth mnx mmd mwr ou v4 = some (st', pl', tk', wd', er', mrm', mfl', mus', mlg', mse', mwe', mwh', nx', md', mth', mnx', mmd', mwr', ou')) (hnext : ∀ (H : Heap) (locs : List Loc) (ls : Array Slot), va_P (dC, dI) vwCl (wW cA cL h0 q1 q2 q3 q4 q5 q6 g0 g1 g2 g3 g4 g5 g6 g7 qo (st') (pl') (tk') (wd') (er') (mrm') (mfl') (mus') (mlg') (mse') (mwe') (mwh') (nx') (md') (mth') (mnx') (mmd') (mwr') (ou')) H → va_D (fun q => s.heap.size ≤ q) (wW cA cL h0 q1 q2 q3 q4 q5 q6 g0 g1 g2 g3 g4 g5 g6 g7 qo (st') (pl') (tk') (wd') (er') (mrm') (mfl') (mus') (mlg') (mse') (mwe') (mwh') (nx') (md') (mth') (mnx') (mmd') (mwr') (ou')) → va_S (fun q => s.heap.size ≤ q) s.heap H locs → lv_has ls 8 [(0, .ref b), (1, .ref h0), (2, .ref g0), (3, .ref qo), (4, .int v4)] → W p l e room_1 s m args below meth c H locs (kc + 1) (ks + 6) Q (F0 m 833 ls [])) (H : Heap) (locs : List Loc) (ls : Array Slot) (hP : va_P (dC, dI) vwCl (wW cA cL h0 q1 q2 q3 q4 q5 q6 g0 g1 g2 g3 g4 g5 g6 g7 qo st pl tk wd er mrm mfl mus mlg mse mwe mwh nx md mth mnx mmd mwr ou) H) (hD : va_D (fun q => s.heap.size ≤ q) (wW cA cL h0 q1 q2 q3 q4 q5 q6 g0 g1 g2 g3 g4 g5 g6 g7 qo st pl tk wd er mrm mfl mus mlg mse mwe mwh nx md mth mnx mmd mwr ou)) (hS : va_S (fun q => s.heap.size ≤ q) s.heap H locs) (hl : lv_has ls 8 [(0, .ref b), (1, .ref h0), (2, .ref g0), (3, .ref qo), (4, .int v4)]) : W p l e room_1 s m args below meth c H locs kc ks Q (F0 m 583 ls []) := by
  have hK1 : va_K (dC, dI) vwCl [(cA, .int)] s := hK.sub [0] rfl
  have hA : ∀ q : Nat, s.heap.size ≤ q → s.heap.size ≤ q := fun _ h => h
  have hF : ((f_F_mount st pl tk wd nx).bind fun (r584, st584, pl584, tk584, nx584) => (f_R_mount mrm mfl mus mlg mse mwh mth mnx mwr).bind fun (r588, mus588, mlg588, mse588, mwh588, mth588, mnx588, mwr588) => if r584 = r588 then (some (st584, pl584, tk584, wd, er, mrm, mfl, mus588, mlg588, mse588, mwe, mwh588, nx584, md, mth588, mnx588, mmd, mwr588, ou)) else (none)) = some (st', pl', tk', wd', er', mrm', mfl', mus', mlg', mse', mwe', mwh', nx', md', mth', mnx', mmd', mwr', ou') := hF
  refine lv_aload_n hx hb d_L_law_583 rfl (lv_at hl 1 rfl) ?_
  obtain ⟨⟨r584, st584, pl584, tk584, nx584⟩, hc584, hF⟩ := tx_b hF
  try dsimp only at hF
  have hPc := hP.sub (ws' := (wF cA h0 q1 q2 q3 q4 q5 q6 st pl tk wd er nx md)) [0, 1, 2, 3, 4, 5, 6] rfl
  have hDc := hD.sub (ws' := (wF cA h0 q1 q2 q3 q4 q5 q6 st pl tk wd er nx md)) [0, 1, 2, 3, 4, 5, 6] (by decide) rfl
  have hFc := va_free (wc := (wF cA h0 q1 q2 q3 q4 q5 q6 st pl tk wd er nx md)) hD hS hA [0, 1, 2, 3, 4, 5, 6] rfl
  refine va_calli (va_runV (As := []) (rest := []) ⟨hx, hb, hml, hown, hts⟩ (c_F_mount l dC dI cA h0 q1 q2 q3 q4 q5 q6 H.size st pl tk wd er nx md r584 st584 pl584 tk584 nx584 hc584) (cwV 0 hts (tg_V bq_1_64 bq_1_65 bq_1_66 bq_1_1 bq_1_67) rfl rfl rfl (by decide +kernel) ⟨Nat.le_of_ble_eq_true rfl, Nat.le_of_ble_eq_true rfl⟩) ⟨tx_blW, (va_recv (ci := 1) (q0 := 0) hK hP rfl rfl), tx_preW hPc hDc hK1 hNw⟩ rfl rfl hl.1 rfl (lv_room (Nat.le_of_ble_eq_true rfl)) d_L_law_584 ⟨Nat.le_of_succ_le hkc, Nat.le_trans (Nat.le_add_right _ 6) hks⟩) hS (fun q _ h => hFc q h) hFc (fun zz _u t H locs ht hvm hw hB hz1 hk1 hS => ?_)
  subst hw
  obtain ⟨hP1, hD1⟩ := hB
  rw [ht] at hP1
  obtain ⟨hP2, hD2⟩ := va_join (wr := [(g0, .inr (2, [.int mth, .ref g1, .ref g2, .ref g3, .ref g4, .ref g5, .ref g6, .ref g7, .int mnx, .int mmd, .int mwr])), (g1, .inl (cA, 31, .inl mrm)), (g2, .inl (cA, 80, .inl mfl)), (g3, .inl (cA, 16, .inl mus)), (g4, .inl (cA, 16, .inl mlg)), (g5, .inl (cA, 16, .inl mse)), (g6, .inl (cA, 4, .inl mwe)), (g7, .inl (cA, 8, .inl mwh)), (qo, .inl (cL, 1, .inr (.inl ou)))]) (w1 := (wF cA h0 q1 q2 q3 q4 q5 q6 st584 pl584 tk584 wd er nx584 md)) hP hD [0, 1, 2, 3, 4, 5, 6] [7, 8, 9, 10, 11, 12, 13, 14, 15] rfl rfl (by decide) (by decide) hk1 hFc hP1 hD1
  have hP := hP2.sub (ws' := (wW cA cL h0 q1 q2 q3 q4 q5 q6 g0 g1 g2 g3 g4 g5 g6 g7 qo st584 pl584 tk584 wd er mrm mfl mus mlg mse mwe mwh nx584 md mth mnx mmd mwr ou)) [9, 10, 11, 12, 13, 14, 15, 0, 1, 2, 3, 4, 5, 6, 7, 8] rfl
  have hD := hD2.sub (ws' := (wW cA cL h0 q1 q2 q3 q4 q5 q6 g0 g1 g2 g3 g4 g5 g6 g7 qo st584 pl584 tk584 wd er mrm mfl mus mlg mse mwe mwh nx584 md mth mnx mmd mwr ou)) [9, 10, 11, 12, 13, 14, 15, 0, 1, 2, 3, 4, 5, 6, 7, 8] (by decide) rfl
  refine lv_aload_n hx hb d_L_law_587 rfl (lv_at hl 2 rfl) ?_
  obtain ⟨⟨r588, mus588, mlg588, mse588, mwh588, mth588, mnx588, mwr588⟩, hc588, hF⟩ := tx_b hF
  try dsimp only at hF
  have hPc := hP.sub (ws' := (wR cA g0 g1 g2 g3 g4 g5 g6 g7 mrm mfl mus mlg mse mwe mwh mth mnx mmd mwr)) [7, 8, 9, 10, 11, 12, 13, 14] rfl
  have hDc := hD.sub (ws' := (wR cA g0 g1 g2 g3 g4 g5 g6 g7 mrm mfl mus mlg mse mwe mwh mth mnx mmd mwr)) [7, 8, 9, 10, 11, 12, 13, 14] (by decide) rfl
  have hFc := va_free (wc := (wR cA g0 g1 g2 g3 g4 g5 g6 g7 mrm mfl mus mlg mse mwe mwh mth mnx mmd mwr)) hD hS hA [7, 8, 9, 10, 11, 12, 13, 14] rfl
  refine va_calli (va_runV (As := []) (rest := [.int r584]) ⟨hx, hb, hml, hown, hts⟩ (c_R_mount l dC dI cA g0 g1 g2 g3 g4 g5 g6 g7 H.size mrm mfl mus mlg mse mwe mwh mth mnx mmd mwr r588 mus588 mlg588 mse588 mwh588 mth588 mnx588 mwr588 hc588) (cwV 0 hts (tg_V bq_3_80 bq_3_81 bq_3_82 bq_1_4 bq_3_83) rfl rfl rfl (by decide +kernel) ⟨Nat.le_of_ble_eq_true rfl, Nat.le_of_ble_eq_true rfl⟩) ⟨tx_blW, (va_recv (ci := 2) (q0 := 7) hK hP rfl rfl), tx_preW hPc hDc hK1 hNw⟩ rfl rfl hl.1 rfl (lv_room (Nat.le_of_ble_eq_true rfl)) d_L_law_588 ⟨Nat.le_of_succ_le hkc, Nat.le_trans (Nat.le_add_right _ 6) hks⟩) hS (fun q _ h => hFc q h) hFc (fun zz _u t H locs ht hvm hw hB hz1 hk1 hS => ?_)
  subst hw
  obtain ⟨hP1, hD1⟩ := hB
  rw [ht] at hP1
  obtain ⟨hP2, hD2⟩ := va_join (wr := [(h0, .inr (1, [.ref q1, .ref q2, .ref q3, .ref q4, .int nx584, .int md])), (q1, .inr (0, [.ref q5, .ref q6])), (q2, .inl (cA, 16, .inl st584)), (q3, .inl (cA, 8, .inl pl584)), (q4, .inl (cA, 8, .inl tk584)), (q5, .inl (cA, 80, .inl wd)), (q6, .inl (cA, 4, .inl er)), (qo, .inl (cL, 1, .inr (.inl ou)))]) (w1 := (wR cA g0 g1 g2 g3 g4 g5 g6 g7 mrm mfl mus588 mlg588 mse588 mwe mwh588 mth588 mnx588 mmd mwr588)) hP hD [7, 8, 9, 10, 11, 12, 13, 14] [0, 1, 2, 3, 4, 5, 6, 15] rfl rfl (by decide) (by decide) hk1 hFc hP1 hD1
  have hP := hP2.sub (ws' := (wW cA cL h0 q1 q2 q3 q4 q5 q6 g0 g1 g2 g3 g4 g5 g6 g7 qo st584 pl584 tk584 wd er mrm mfl mus588 mlg588 mse588 mwe mwh588 nx584 md mth588 mnx588 mmd mwr588 ou)) [0, 1, 2, 3, 4, 5, 6, 8, 9, 10, 11, 12, 13, 14, 15, 7] rfl
  have hD := hD2.sub (ws' := (wW cA cL h0 q1 q2 q3 q4 q5 q6 g0 g1 g2 g3 g4 g5 g6 g7 qo st584 pl584 tk584 wd er mrm mfl mus588 mlg588 mse588 mwe mwh588 nx584 md mth588 mnx588 mmd mwr588 ou)) [0, 1, 2, 3, 4, 5, 6, 8, 9, 10, 11, 12, 13, 14, 15, 7] (by decide) rfl
  refine lv_icmp_eq hx hb d_L_law_591 (tgt := 833) (by decide) (fun h591 => ?_) (fun h591 => ?_)
  · have hF := tx_t h591 hF
    cases hF
    refine W.widen (k := kc + 1) (n := ks + 6) (Nat.le_add_right _ _) (Nat.le_add_right _ _) ?_
    exact hnext _ _ _ hP hD hS (lv_sub hl [0, 1, 2, 3, 4] rfl)
  · have hF := tx_f h591 hF
    refine lv_iconst (v := (0 : Int32)) hx hb d_L_law_594 (by decide) ?_
    cases hF
def f_W596_J637 (L : Nat) (xs : Nat → Int32) (v4 : Int32) (st : Nat → Int32) (pl : Nat → Int32) (tk : Nat → Int32) (wd : Nat → Int32) (er : Nat → Int32) (mrm : Nat → Int32) (mfl : Nat → Int32) (mus : Nat → Int32) (mlg : Nat → Int32) (mse : Nat → Int32) (mwe : Nat → Int32) (mwh : Nat → Int32) (nx : Int32) (md : Int32) (mth : Int32) (mnx : Int32) (mmd : Int32) (mwr : Int32) (ou : Nat → Int64)  : Option ((Nat → Int32) × (Nat → Int32) × (Nat → Int32) × (Nat → Int32) × (Nat → Int32) × (Nat → Int32) × (Nat → Int32) × (Nat → Int32) × (Nat → Int32) × (Nat → Int32) × (Nat → Int32) × (Nat → Int32) × Int32 × Int32 × Int32 × Int32 × Int32 × Int32 × (Nat → Int64)) := some (st, pl, tk, wd, er, mrm, mfl, mus, mlg, mse, mwe, mwh, nx, md, mth, mnx, mmd, mwr, ou)
def f_W596 (L : Nat) (xs : Nat → Int32) (st : Nat → Int32) (pl : Nat → Int32) (tk : Nat → Int32) (wd : Nat → Int32) (er : Nat → Int32) (mrm : Nat → Int32) (mfl : Nat → Int32) (mus : Nat → Int32) (mlg : Nat → Int32) (mse : Nat → Int32) (mwe : Nat → Int32) (mwh : Nat → Int32) (nx : Int32) (md : Int32) (mth : Int32) (mnx : Int32) (mmd : Int32) (mwr : Int32) (ou : Nat → Int64) (v4 : Int32) : Option ((Nat → Int32) × (Nat → Int32) × (Nat → Int32) × (Nat → Int32) × (Nat → Int32) × (Nat → Int32) × (Nat → Int32) × (Nat → Int32) × (Nat → Int32) × (Nat → Int32) × (Nat → Int32) × (Nat → Int32) × Int32 × Int32 × Int32 × Int32 × Int32 × Int32 × (Nat → Int64)) := (f_L_clean st pl wd er nx ou).bind fun (r598, st598, pl598, wd598, er598, nx598, ou598) => (f_R_clean mrm mfl mus mlg mse mwe mwh mth mnx mwr).bind fun (r604, mfl604, mus604, mlg604, mse604, mwe604, mwh604, mth604, mnx604, mwr604) => (f_R_thrown mth604).bind fun r610 => if r610 = r598 then (if r598 = 0 then (if (0 : Int32) < 0 ∨ 1 ≤ (0 : Int32).toNatClampNeg then none else if (lg_cmp (ou598 (0 : Int32).toNatClampNeg) r604.toInt64) = 0 then (f_W596_J637 L xs v4 st598 pl598 tk wd598 er598 mrm mfl604 mus604 mlg604 mse604 mwe604 mwh604 nx598 md mth604 mnx604 mmd mwr604 ou598) else (none)) else (f_W596_J637 L xs v4 st598 pl598 tk wd598 er598 mrm mfl604 mus604 mlg604 mse604 mwe604 mwh604 nx598 md mth604 mnx604 mmd mwr604 ou598)) else (none)
set_option maxHeartbeats 4000000 in
set_option maxRecDepth 100000 in
theorem cs_596 {p : Program} {l : Launch} {e : Env} {s : State} {m : MethodId} {args : Array Value} {below : List Frame} {meth : Method} {c : Code} {Q : State → Prop} {c1 : Cond} (hx : p.tables.exec = Jvm.exec) (hb : c.code = b_L_law) (hml : c.maxLocals = 8) (hown : s.vm.findClass "FlashStoreLaw" = some m.cls) (hts : ∀ w ∈ c1 :: bw, w.before args s = true) (hfl : l.flags = pinnedFlags ++ [noTraceFlag]) {dC : Nat → ClassId} {dI : Nat → Nat → Nat} {cA cL : ClassId} (hK : va_K (dC, dI) vwCl [(cA, .int), (cL, .long)] s) (hNw : va_Nw tx_nest s) (hE : tx_E s) {b L : Nat} {xs : Nat → Int32} (hX : va_X b L xs s s.heap) (hbl : b < s.heap.size) (h0 q1 q2 q3 q4 q5 q6 g0 g1 g2 g3 g4 g5 g6 g7 qo : Nat) (st pl tk wd er mrm mfl mus mlg mse mwe mwh : Nat → Int32) (nx md mth mnx mmd mwr : Int32) (ou : Nat → Int64) (v4 : Int32) (kc ks : Nat) (hkc : kc + 1 ≤ 601024) (hks : ks + 6 ≤ 7293034) (st' : Nat → Int32) (pl' : Nat → Int32) (tk' : Nat → Int32) (wd' : Nat → Int32) (er' : Nat → Int32) (mrm' : Nat → Int32) (mfl' : Nat → Int32) (mus' : Nat → Int32) (mlg' : Nat → Int32) (mse' : Nat → Int32) (mwe' : Nat → Int32) (mwh' : Nat → Int32) (nx' : Int32) (md' : Int32) (mth' : Int32) (mnx' : Int32) (mmd' : Int32) (mwr' : Int32) (ou' : Nat → Int64) (hF : f_W596 L xs st pl tk wd er mrm mfl mus mlg mse mwe mwh nx md mth mnx mmd mwr ou v4 = some (st', pl', tk', wd', er', mrm', mfl', mus', mlg', mse', mwe', mwh', nx', md', mth', mnx', mmd', mwr', ou')) (hnext : ∀ (H : Heap) (locs : List Loc) (ls : Array Slot), va_P (dC, dI) vwCl (wW cA cL h0 q1 q2 q3 q4 q5 q6 g0 g1 g2 g3 g4 g5 g6 g7 qo (st') (pl') (tk') (wd') (er') (mrm') (mfl') (mus') (mlg') (mse') (mwe') (mwh') (nx') (md') (mth') (mnx') (mmd') (mwr') (ou')) H → va_D (fun q => s.heap.size ≤ q) (wW cA cL h0 q1 q2 q3 q4 q5 q6 g0 g1 g2 g3 g4 g5 g6 g7 qo (st') (pl') (tk') (wd') (er') (mrm') (mfl') (mus') (mlg') (mse') (mwe') (mwh') (nx') (md') (mth') (mnx') (mmd') (mwr') (ou')) → va_S (fun q => s.heap.size ≤ q) s.heap H locs → lv_has ls 8 [(0, .ref b), (1, .ref h0), (2, .ref g0), (3, .ref qo), (4, .int v4)] → W p l e room_1 s m args below meth c H locs (kc + 1) (ks + 6) Q (F0 m 833 ls [])) (H : Heap) (locs : List Loc) (ls : Array Slot) (hP : va_P (dC, dI) vwCl (wW cA cL h0 q1 q2 q3 q4 q5 q6 g0 g1 g2 g3 g4 g5 g6 g7 qo st pl tk wd er mrm mfl mus mlg mse mwe mwh nx md mth mnx mmd mwr ou) H) (hD : va_D (fun q => s.heap.size ≤ q) (wW cA cL h0 q1 q2 q3 q4 q5 q6 g0 g1 g2 g3 g4 g5 g6 g7 qo st pl tk wd er mrm mfl mus mlg mse mwe mwh nx md mth mnx mmd mwr ou)) (hS : va_S (fun q => s.heap.size ≤ q) s.heap H locs) (hl : lv_has ls 8 [(0, .ref b), (1, .ref h0), (2, .ref g0), (3, .ref qo), (4, .int v4)]) : W p l e room_1 s m args below meth c H locs kc ks Q (F0 m 596 ls []) := by
  have hK1 : va_K (dC, dI) vwCl [(cA, .int)] s := hK.sub [0] rfl
  have hA : ∀ q : Nat, s.heap.size ≤ q → s.heap.size ≤ q := fun _ h => h
  have J637 : ∀ (H : Heap) (locs : List Loc) (ls : Array Slot) (st : Nat → Int32) (pl : Nat → Int32) (tk : Nat → Int32) (wd : Nat → Int32) (er : Nat → Int32) (mrm : Nat → Int32) (mfl : Nat → Int32) (mus : Nat → Int32) (mlg : Nat → Int32) (mse : Nat → Int32) (mwe : Nat → Int32) (mwh : Nat → Int32) (nx : Int32) (md : Int32) (mth : Int32) (mnx : Int32) (mmd : Int32) (mwr : Int32) (ou : Nat → Int64), va_P (dC, dI) vwCl (wW cA cL h0 q1 q2 q3 q4 q5 q6 g0 g1 g2 g3 g4 g5 g6 g7 qo st pl tk wd er mrm mfl mus mlg mse mwe mwh nx md mth mnx mmd mwr ou) H → va_D (fun q => s.heap.size ≤ q) (wW cA cL h0 q1 q2 q3 q4 q5 q6 g0 g1 g2 g3 g4 g5 g6 g7 qo st pl tk wd er mrm mfl mus mlg mse mwe mwh nx md mth mnx mmd mwr ou) → va_S (fun q => s.heap.size ≤ q) s.heap H locs → lv_has ls 8 [(0, .ref b), (1, .ref h0), (2, .ref g0), (3, .ref qo), (4, .int v4)] → f_W596_J637 L xs v4 st pl tk wd er mrm mfl mus mlg mse mwe mwh nx md mth mnx mmd mwr ou = some (st', pl', tk', wd', er', mrm', mfl', mus', mlg', mse', mwe', mwh', nx', md', mth', mnx', mmd', mwr', ou') → W p l e room_1 s m args below meth c H locs (kc + 1) (ks + 6) Q (F0 m 637 ls []) := by
    intro H locs ls st pl tk wd er mrm mfl mus mlg mse mwe mwh nx md mth mnx mmd mwr ou hP hD hS hl hF
    have hF : (some (st, pl, tk, wd, er, mrm, mfl, mus, mlg, mse, mwe, mwh, nx, md, mth, mnx, mmd, mwr, ou)) = some (st', pl', tk', wd', er', mrm', mfl', mus', mlg', mse', mwe', mwh', nx', md', mth', mnx', mmd', mwr', ou') := hF
    refine lv_goto hx hb d_L_law_637 (tgt := 833) (by decide) ?_
    cases hF
    exact hnext _ _ _ hP hD hS (lv_sub hl [0, 1, 2, 3, 4] rfl)
  have hF : ((f_L_clean st pl wd er nx ou).bind fun (r598, st598, pl598, wd598, er598, nx598, ou598) => (f_R_clean mrm mfl mus mlg mse mwe mwh mth mnx mwr).bind fun (r604, mfl604, mus604, mlg604, mse604, mwe604, mwh604, mth604, mnx604, mwr604) => (f_R_thrown mth604).bind fun r610 => if r610 = r598 then (if r598 = 0 then (if (0 : Int32) < 0 ∨ 1 ≤ (0 : Int32).toNatClampNeg then none else if (lg_cmp (ou598 (0 : Int32).toNatClampNeg) r604.toInt64) = 0 then (f_W596_J637 L xs v4 st598 pl598 tk wd598 er598 mrm mfl604 mus604 mlg604 mse604 mwe604 mwh604 nx598 md mth604 mnx604 mmd mwr604 ou598) else (none)) else (f_W596_J637 L xs v4 st598 pl598 tk wd598 er598 mrm mfl604 mus604 mlg604 mse604 mwe604 mwh604 nx598 md mth604 mnx604 mmd mwr604 ou598)) else (none)) = some (st', pl', tk', wd', er', mrm', mfl', mus', mlg', mse', mwe', mwh', nx', md', mth', mnx', mmd', mwr', ou') := hF
  refine lv_aload_n hx hb d_L_law_596 rfl (lv_at hl 1 rfl) ?_
  refine lv_aload_n hx hb d_L_law_597 rfl (lv_at hl 3 rfl) ?_
  obtain ⟨⟨r598, st598, pl598, wd598, er598, nx598, ou598⟩, hc598, hF⟩ := tx_b hF
  try dsimp only at hF
  have hPc := hP.sub (ws' := (wH cA cL h0 q1 q2 q3 q4 q5 q6 qo st pl tk wd er nx md ou)) [0, 1, 2, 3, 4, 5, 6, 15] rfl
  have hDc := hD.sub (ws' := (wH cA cL h0 q1 q2 q3 q4 q5 q6 qo st pl tk wd er nx md ou)) [0, 1, 2, 3, 4, 5, 6, 15] (by decide) rfl
  have hFc := va_free (wc := (wH cA cL h0 q1 q2 q3 q4 q5 q6 qo st pl tk wd er nx md ou)) hD hS hA [0, 1, 2, 3, 4, 5, 6, 15] rfl
  refine va_calli (tx_runSW (n := 2) (As := [.ref h0, .ref qo]) (rest := []) ⟨hx, hb, hml, hown, hts⟩ (c_L_clean l dC dI cA cL h0 q1 q2 q3 q4 q5 q6 qo H.size st pl tk wd er nx md ou r598 st598 pl598 wd598 er598 nx598 ou598 hc598 hfl) (tg_S bq_2_155 bq_2_156 bq_1_0 bq_2_157) rfl rfl rfl (by decide +kernel) ⟨Nat.le_of_ble_eq_true rfl, Nat.le_of_ble_eq_true rfl⟩ ⟨tx_blH, tx_preH hPc hDc hK hNw (tx_E_up hE hS)⟩ rfl rfl hl.1 rfl (lv_room (Nat.le_of_ble_eq_true rfl)) d_L_law_598 ⟨hkc, hks⟩) hS (fun q _ h => hFc q h) hFc (fun zz _u t H locs ht hvm hw hB hz1 hk1 hS => ?_)
  subst hw
  obtain ⟨hP1, hD1⟩ := hB
  rw [ht] at hP1
  obtain ⟨hP2, hD2⟩ := va_join (wr := [(g0, .inr (2, [.int mth, .ref g1, .ref g2, .ref g3, .ref g4, .ref g5, .ref g6, .ref g7, .int mnx, .int mmd, .int mwr])), (g1, .inl (cA, 31, .inl mrm)), (g2, .inl (cA, 80, .inl mfl)), (g3, .inl (cA, 16, .inl mus)), (g4, .inl (cA, 16, .inl mlg)), (g5, .inl (cA, 16, .inl mse)), (g6, .inl (cA, 4, .inl mwe)), (g7, .inl (cA, 8, .inl mwh))]) (w1 := (wH cA cL h0 q1 q2 q3 q4 q5 q6 qo st598 pl598 tk wd598 er598 nx598 md ou598)) hP hD [0, 1, 2, 3, 4, 5, 6, 15] [7, 8, 9, 10, 11, 12, 13, 14] rfl rfl (by decide) (by decide) hk1 hFc hP1 hD1
  have hP := hP2.sub (ws' := (wW cA cL h0 q1 q2 q3 q4 q5 q6 g0 g1 g2 g3 g4 g5 g6 g7 qo st598 pl598 tk wd598 er598 mrm mfl mus mlg mse mwe mwh nx598 md mth mnx mmd mwr ou598)) [8, 9, 10, 11, 12, 13, 14, 0, 1, 2, 3, 4, 5, 6, 7, 15] rfl
  have hD := hD2.sub (ws' := (wW cA cL h0 q1 q2 q3 q4 q5 q6 g0 g1 g2 g3 g4 g5 g6 g7 qo st598 pl598 tk wd598 er598 mrm mfl mus mlg mse mwe mwh nx598 md mth mnx mmd mwr ou598)) [8, 9, 10, 11, 12, 13, 14, 0, 1, 2, 3, 4, 5, 6, 7, 15] (by decide) rfl
  refine lv_istore hx hb d_L_law_601 hl (by decide) rfl (fun ls hl => ?_)
  have hl : lv_has ls 8 [(5, .int r598), (0, .ref b), (1, .ref h0), (2, .ref g0), (3, .ref qo), (4, .int v4)] := hl
  refine lv_aload_n hx hb d_L_law_603 rfl (lv_at hl 3 rfl) ?_
  obtain ⟨⟨r604, mfl604, mus604, mlg604, mse604, mwe604, mwh604, mth604, mnx604, mwr604⟩, hc604, hF⟩ := tx_b hF
  try dsimp only at hF
  have hPc := hP.sub (ws' := (wR cA g0 g1 g2 g3 g4 g5 g6 g7 mrm mfl mus mlg mse mwe mwh mth mnx mmd mwr)) [7, 8, 9, 10, 11, 12, 13, 14] rfl
  have hDc := hD.sub (ws' := (wR cA g0 g1 g2 g3 g4 g5 g6 g7 mrm mfl mus mlg mse mwe mwh mth mnx mmd mwr)) [7, 8, 9, 10, 11, 12, 13, 14] (by decide) rfl
  have hFc := va_free (wc := (wR cA g0 g1 g2 g3 g4 g5 g6 g7 mrm mfl mus mlg mse mwe mwh mth mnx mmd mwr)) hD hS hA [7, 8, 9, 10, 11, 12, 13, 14] rfl
  refine va_calli (va_runV (As := []) (rest := []) ⟨hx, hb, hml, hown, hts⟩ (c_R_clean l dC dI cA g0 g1 g2 g3 g4 g5 g6 g7 H.size mrm mfl mus mlg mse mwe mwh mth mnx mmd mwr r604 mfl604 mus604 mlg604 mse604 mwe604 mwh604 mth604 mnx604 mwr604 hc604) (cwV 0 hts (tg_V bq_3_23 bq_3_24 bq_3_25 bq_1_4 bq_3_26) rfl rfl rfl (by decide +kernel) ⟨Nat.le_of_ble_eq_true rfl, Nat.le_of_ble_eq_true rfl⟩) ⟨tx_blW, (va_recv (ci := 2) (q0 := 7) hK hP rfl rfl), tx_preW hPc hDc hK1 hNw⟩ rfl rfl hl.1 rfl (lv_room (Nat.le_of_ble_eq_true rfl)) d_L_law_604 ⟨hkc, hks⟩) hS (fun q _ h => hFc q h) hFc (fun zz _u t H locs ht hvm hw hB hz1 hk1 hS => ?_)
  subst hw
  obtain ⟨hP1, hD1⟩ := hB
  rw [ht] at hP1
  obtain ⟨hP2, hD2⟩ := va_join (wr := [(h0, .inr (1, [.ref q1, .ref q2, .ref q3, .ref q4, .int nx598, .int md])), (q1, .inr (0, [.ref q5, .ref q6])), (q2, .inl (cA, 16, .inl st598)), (q3, .inl (cA, 8, .inl pl598)), (q4, .inl (cA, 8, .inl tk)), (q5, .inl (cA, 80, .inl wd598)), (q6, .inl (cA, 4, .inl er598)), (qo, .inl (cL, 1, .inr (.inl ou598)))]) (w1 := (wR cA g0 g1 g2 g3 g4 g5 g6 g7 mrm mfl604 mus604 mlg604 mse604 mwe604 mwh604 mth604 mnx604 mmd mwr604)) hP hD [7, 8, 9, 10, 11, 12, 13, 14] [0, 1, 2, 3, 4, 5, 6, 15] rfl rfl (by decide) (by decide) hk1 hFc hP1 hD1
  have hP := hP2.sub (ws' := (wW cA cL h0 q1 q2 q3 q4 q5 q6 g0 g1 g2 g3 g4 g5 g6 g7 qo st598 pl598 tk wd598 er598 mrm mfl604 mus604 mlg604 mse604 mwe604 mwh604 nx598 md mth604 mnx604 mmd mwr604 ou598)) [0, 1, 2, 3, 4, 5, 6, 8, 9, 10, 11, 12, 13, 14, 15, 7] rfl
  have hD := hD2.sub (ws' := (wW cA cL h0 q1 q2 q3 q4 q5 q6 g0 g1 g2 g3 g4 g5 g6 g7 qo st598 pl598 tk wd598 er598 mrm mfl604 mus604 mlg604 mse604 mwe604 mwh604 nx598 md mth604 mnx604 mmd mwr604 ou598)) [0, 1, 2, 3, 4, 5, 6, 8, 9, 10, 11, 12, 13, 14, 15, 7] (by decide) rfl
  refine lv_istore hx hb d_L_law_607 hl (by decide) rfl (fun ls hl => ?_)
  have hl : lv_has ls 8 [(6, .int r604), (5, .int r598), (0, .ref b), (1, .ref h0), (2, .ref g0), (3, .ref qo), (4, .int v4)] := hl
  refine lv_aload_n hx hb d_L_law_609 rfl (lv_at hl 4 rfl) ?_
  obtain ⟨r610, hc610, hF⟩ := tx_b hF
  refine vp_callSi (W.runV (As := []) (rest := []) ⟨hx, hb, hml, hown, hts⟩ (c_R_thrown l dC dI cA g0 g1 g2 g3 g4 g5 g6 g7 mrm mfl604 mus604 mlg604 mse604 mwe604 mwh604 mth604 mnx604 mmd mwr604 r610 hc610) (cwV 0 hts (tg_V bq_2_226 bq_2_227 bq_2_228 bq_1_4 bq_2_229) rfl rfl rfl (by decide +kernel) ⟨Nat.le_of_ble_eq_true rfl, Nat.le_of_ble_eq_true rfl⟩) ⟨tx_blR, (va_recv (ci := 2) (q0 := 7) hK hP rfl rfl), tx_preR (hP.sub (ws' := (wR cA g0 g1 g2 g3 g4 g5 g6 g7 mrm mfl604 mus604 mlg604 mse604 mwe604 mwh604 mth604 mnx604 mmd mwr604)) [7, 8, 9, 10, 11, 12, 13, 14] rfl) hK1⟩ rfl rfl hl.1 rfl (lv_room (Nat.le_of_ble_eq_true rfl)) d_L_law_610 ⟨hkc, hks⟩) (fun zz hz => ?_)
  subst hz
  refine lv_iload hx hb d_L_law_613 (lv_at hl 1 rfl) ?_
  refine lv_icmp_eq hx hb d_L_law_615 (tgt := 620) (by decide) (fun h615 => ?_) (fun h615 => ?_)
  · have hF := tx_t h615 hF
    refine lv_iload hx hb d_L_law_620 (lv_at hl 1 rfl) ?_
    refine lv_if_ne hx hb d_L_law_622 (tgt := 637) (by decide) (fun h622 => ?_) (fun h622 => ?_)
    · have hF := tx_f h622 hF
      exact J637 _ _ _ st598 pl598 tk wd598 er598 mrm mfl604 mus604 mlg604 mse604 mwe604 mwh604 nx598 md mth604 mnx604 mmd mwr604 ou598 hP hD hS (lv_sub hl [2, 3, 4, 5, 6] rfl) hF
    · have hF := tx_t h622 hF
      refine lv_aload_n hx hb d_L_law_625 rfl (lv_at hl 5 rfl) ?_
      refine lv_iconst (v := (0 : Int32)) hx hb d_L_law_626 (by decide) ?_
      obtain ⟨hi627, hF⟩ := tx_g hF
      refine va_lald hx hb hK hP 15 1 rfl rfl hi627 d_L_law_627 ?_
      refine lv_iload hx hb d_L_law_628 (lv_at hl 0 rfl) ?_
      refine lv_i2l hx hb d_L_law_630 rfl ?_
      refine W.lcmp hx hb d_L_law_631 ?_
      refine lv_if_eq hx hb d_L_law_632 (tgt := 637) (by decide) (fun h632 => ?_) (fun h632 => ?_)
      · have hF := tx_t h632 hF
        exact J637 _ _ _ st598 pl598 tk wd598 er598 mrm mfl604 mus604 mlg604 mse604 mwe604 mwh604 nx598 md mth604 mnx604 mmd mwr604 ou598 hP hD hS (lv_sub hl [2, 3, 4, 5, 6] rfl) hF
      · have hF := tx_f h632 hF
        refine lv_iconst (v := (0 : Int32)) hx hb d_L_law_635 (by decide) ?_
        cases hF
  · have hF := tx_f h615 hF
    refine lv_iconst (v := (0 : Int32)) hx hb d_L_law_618 (by decide) ?_
    cases hF
def f_W640_J693 (L : Nat) (xs : Nat → Int32) (v4 : Int32) (st : Nat → Int32) (pl : Nat → Int32) (tk : Nat → Int32) (wd : Nat → Int32) (er : Nat → Int32) (mrm : Nat → Int32) (mfl : Nat → Int32) (mus : Nat → Int32) (mlg : Nat → Int32) (mse : Nat → Int32) (mwe : Nat → Int32) (mwh : Nat → Int32) (nx : Int32) (md : Int32) (mth : Int32) (mnx : Int32) (mmd : Int32) (mwr : Int32) (ou : Nat → Int64)  : Option ((Nat → Int32) × (Nat → Int32) × (Nat → Int32) × (Nat → Int32) × (Nat → Int32) × (Nat → Int32) × (Nat → Int32) × (Nat → Int32) × (Nat → Int32) × (Nat → Int32) × (Nat → Int32) × (Nat → Int32) × Int32 × Int32 × Int32 × Int32 × Int32 × Int32 × (Nat → Int64)) := some (st, pl, tk, wd, er, mrm, mfl, mus, mlg, mse, mwe, mwh, nx, md, mth, mnx, mmd, mwr, ou)
def f_W640 (L : Nat) (xs : Nat → Int32) (st : Nat → Int32) (pl : Nat → Int32) (tk : Nat → Int32) (wd : Nat → Int32) (er : Nat → Int32) (mrm : Nat → Int32) (mfl : Nat → Int32) (mus : Nat → Int32) (mlg : Nat → Int32) (mse : Nat → Int32) (mwe : Nat → Int32) (mwh : Nat → Int32) (nx : Int32) (md : Int32) (mth : Int32) (mnx : Int32) (mmd : Int32) (mwr : Int32) (ou : Nat → Int64) (v4 : Int32) : Option ((Nat → Int32) × (Nat → Int32) × (Nat → Int32) × (Nat → Int32) × (Nat → Int32) × (Nat → Int32) × (Nat → Int32) × (Nat → Int32) × (Nat → Int32) × (Nat → Int32) × (Nat → Int32) × (Nat → Int32) × Int32 × Int32 × Int32 × Int32 × Int32 × Int32 × (Nat → Int64)) := if (v4 + (1 : Int32)) < 0 ∨ L ≤ (v4 + (1 : Int32)).toNatClampNeg then none else (f_L_place pl ou (xs (v4 + (1 : Int32)).toNatClampNeg)).bind fun (r648, ou648) => if (v4 + (1 : Int32)) < 0 ∨ L ≤ (v4 + (1 : Int32)).toNatClampNeg then none else (f_R_place mwh mth (xs (v4 + (1 : Int32)).toNatClampNeg)).bind fun (r660, mth660) => (f_R_thrown mth660).bind fun r666 => if r666 = r648 then (if r648 = 0 then (if (0 : Int32) < 0 ∨ 1 ≤ (0 : Int32).toNatClampNeg then none else if (lg_cmp (ou648 (0 : Int32).toNatClampNeg) r660.toInt64) = 0 then (f_W640_J693 L xs v4 st pl tk wd er mrm mfl mus mlg mse mwe mwh nx md mth660 mnx mmd mwr ou648) else (none)) else (f_W640_J693 L xs v4 st pl tk wd er mrm mfl mus mlg mse mwe mwh nx md mth660 mnx mmd mwr ou648)) else (none)
set_option maxHeartbeats 4000000 in
set_option maxRecDepth 100000 in
theorem cs_640 {p : Program} {l : Launch} {e : Env} {s : State} {m : MethodId} {args : Array Value} {below : List Frame} {meth : Method} {c : Code} {Q : State → Prop} {c1 : Cond} (hx : p.tables.exec = Jvm.exec) (hb : c.code = b_L_law) (hml : c.maxLocals = 8) (hown : s.vm.findClass "FlashStoreLaw" = some m.cls) (hts : ∀ w ∈ c1 :: bw, w.before args s = true) (hfl : l.flags = pinnedFlags ++ [noTraceFlag]) {dC : Nat → ClassId} {dI : Nat → Nat → Nat} {cA cL : ClassId} (hK : va_K (dC, dI) vwCl [(cA, .int), (cL, .long)] s) (hNw : va_Nw tx_nest s) (hE : tx_E s) {b L : Nat} {xs : Nat → Int32} (hX : va_X b L xs s s.heap) (hbl : b < s.heap.size) (h0 q1 q2 q3 q4 q5 q6 g0 g1 g2 g3 g4 g5 g6 g7 qo : Nat) (st pl tk wd er mrm mfl mus mlg mse mwe mwh : Nat → Int32) (nx md mth mnx mmd mwr : Int32) (ou : Nat → Int64) (v4 : Int32) (kc ks : Nat) (hkc : kc + 1 ≤ 601024) (hks : ks + 6 ≤ 7293034) (st' : Nat → Int32) (pl' : Nat → Int32) (tk' : Nat → Int32) (wd' : Nat → Int32) (er' : Nat → Int32) (mrm' : Nat → Int32) (mfl' : Nat → Int32) (mus' : Nat → Int32) (mlg' : Nat → Int32) (mse' : Nat → Int32) (mwe' : Nat → Int32) (mwh' : Nat → Int32) (nx' : Int32) (md' : Int32) (mth' : Int32) (mnx' : Int32) (mmd' : Int32) (mwr' : Int32) (ou' : Nat → Int64) (hF : f_W640 L xs st pl tk wd er mrm mfl mus mlg mse mwe mwh nx md mth mnx mmd mwr ou v4 = some (st', pl', tk', wd', er', mrm', mfl', mus', mlg', mse', mwe', mwh', nx', md', mth', mnx', mmd', mwr', ou')) (hnext : ∀ (H : Heap) (locs : List Loc) (ls : Array Slot), va_P (dC, dI) vwCl (wW cA cL h0 q1 q2 q3 q4 q5 q6 g0 g1 g2 g3 g4 g5 g6 g7 qo (st') (pl') (tk') (wd') (er') (mrm') (mfl') (mus') (mlg') (mse') (mwe') (mwh') (nx') (md') (mth') (mnx') (mmd') (mwr') (ou')) H → va_D (fun q => s.heap.size ≤ q) (wW cA cL h0 q1 q2 q3 q4 q5 q6 g0 g1 g2 g3 g4 g5 g6 g7 qo (st') (pl') (tk') (wd') (er') (mrm') (mfl') (mus') (mlg') (mse') (mwe') (mwh') (nx') (md') (mth') (mnx') (mmd') (mwr') (ou')) → va_S (fun q => s.heap.size ≤ q) s.heap H locs → lv_has ls 8 [(0, .ref b), (1, .ref h0), (2, .ref g0), (3, .ref qo), (4, .int v4)] → W p l e room_1 s m args below meth c H locs (kc + 1) (ks + 6) Q (F0 m 833 ls [])) (H : Heap) (locs : List Loc) (ls : Array Slot) (hP : va_P (dC, dI) vwCl (wW cA cL h0 q1 q2 q3 q4 q5 q6 g0 g1 g2 g3 g4 g5 g6 g7 qo st pl tk wd er mrm mfl mus mlg mse mwe mwh nx md mth mnx mmd mwr ou) H) (hD : va_D (fun q => s.heap.size ≤ q) (wW cA cL h0 q1 q2 q3 q4 q5 q6 g0 g1 g2 g3 g4 g5 g6 g7 qo st pl tk wd er mrm mfl mus mlg mse mwe mwh nx md mth mnx mmd mwr ou)) (hS : va_S (fun q => s.heap.size ≤ q) s.heap H locs) (hl : lv_has ls 8 [(0, .ref b), (1, .ref h0), (2, .ref g0), (3, .ref qo), (4, .int v4)]) : W p l e room_1 s m args below meth c H locs kc ks Q (F0 m 640 ls []) := by
  have hK1 : va_K (dC, dI) vwCl [(cA, .int)] s := hK.sub [0] rfl
  have hA : ∀ q : Nat, s.heap.size ≤ q → s.heap.size ≤ q := fun _ h => h
  have J693 : ∀ (H : Heap) (locs : List Loc) (ls : Array Slot) (st : Nat → Int32) (pl : Nat → Int32) (tk : Nat → Int32) (wd : Nat → Int32) (er : Nat → Int32) (mrm : Nat → Int32) (mfl : Nat → Int32) (mus : Nat → Int32) (mlg : Nat → Int32) (mse : Nat → Int32) (mwe : Nat → Int32) (mwh : Nat → Int32) (nx : Int32) (md : Int32) (mth : Int32) (mnx : Int32) (mmd : Int32) (mwr : Int32) (ou : Nat → Int64), va_P (dC, dI) vwCl (wW cA cL h0 q1 q2 q3 q4 q5 q6 g0 g1 g2 g3 g4 g5 g6 g7 qo st pl tk wd er mrm mfl mus mlg mse mwe mwh nx md mth mnx mmd mwr ou) H → va_D (fun q => s.heap.size ≤ q) (wW cA cL h0 q1 q2 q3 q4 q5 q6 g0 g1 g2 g3 g4 g5 g6 g7 qo st pl tk wd er mrm mfl mus mlg mse mwe mwh nx md mth mnx mmd mwr ou) → va_S (fun q => s.heap.size ≤ q) s.heap H locs → lv_has ls 8 [(0, .ref b), (1, .ref h0), (2, .ref g0), (3, .ref qo), (4, .int v4)] → f_W640_J693 L xs v4 st pl tk wd er mrm mfl mus mlg mse mwe mwh nx md mth mnx mmd mwr ou = some (st', pl', tk', wd', er', mrm', mfl', mus', mlg', mse', mwe', mwh', nx', md', mth', mnx', mmd', mwr', ou') → W p l e room_1 s m args below meth c H locs (kc + 1) (ks + 6) Q (F0 m 693 ls []) := by
    intro H locs ls st pl tk wd er mrm mfl mus mlg mse mwe mwh nx md mth mnx mmd mwr ou hP hD hS hl hF
    have hF : (some (st, pl, tk, wd, er, mrm, mfl, mus, mlg, mse, mwe, mwh, nx, md, mth, mnx, mmd, mwr, ou)) = some (st', pl', tk', wd', er', mrm', mfl', mus', mlg', mse', mwe', mwh', nx', md', mth', mnx', mmd', mwr', ou') := hF
    refine lv_goto hx hb d_L_law_693 (tgt := 833) (by decide) ?_
    cases hF
    exact hnext _ _ _ hP hD hS (lv_sub hl [0, 1, 2, 3, 4] rfl)
  have hF : (if (v4 + (1 : Int32)) < 0 ∨ L ≤ (v4 + (1 : Int32)).toNatClampNeg then none else (f_L_place pl ou (xs (v4 + (1 : Int32)).toNatClampNeg)).bind fun (r648, ou648) => if (v4 + (1 : Int32)) < 0 ∨ L ≤ (v4 + (1 : Int32)).toNatClampNeg then none else (f_R_place mwh mth (xs (v4 + (1 : Int32)).toNatClampNeg)).bind fun (r660, mth660) => (f_R_thrown mth660).bind fun r666 => if r666 = r648 then (if r648 = 0 then (if (0 : Int32) < 0 ∨ 1 ≤ (0 : Int32).toNatClampNeg then none else if (lg_cmp (ou648 (0 : Int32).toNatClampNeg) r660.toInt64) = 0 then (f_W640_J693 L xs v4 st pl tk wd er mrm mfl mus mlg mse mwe mwh nx md mth660 mnx mmd mwr ou648) else (none)) else (f_W640_J693 L xs v4 st pl tk wd er mrm mfl mus mlg mse mwe mwh nx md mth660 mnx mmd mwr ou648)) else (none)) = some (st', pl', tk', wd', er', mrm', mfl', mus', mlg', mse', mwe', mwh', nx', md', mth', mnx', mmd', mwr', ou') := hF
  refine lv_aload_n hx hb d_L_law_640 rfl (lv_at hl 1 rfl) ?_
  refine lv_aload_n hx hb d_L_law_641 rfl (lv_at hl 0 rfl) ?_
  refine lv_iload hx hb d_L_law_642 (lv_at hl 4 rfl) ?_
  refine lv_iconst (v := (1 : Int32)) hx hb d_L_law_644 (by decide) ?_
  refine lv_iadd hx hb d_L_law_645 ?_
  obtain ⟨hi646, hF⟩ := tx_g hF
  refine va_sld hx hb hX hbl (Nat.not_le.mpr hbl) hS hi646 d_L_law_646 ?_
  refine lv_aload_n hx hb d_L_law_647 rfl (lv_at hl 3 rfl) ?_
  obtain ⟨⟨r648, ou648⟩, hc648, hF⟩ := tx_b hF
  try dsimp only at hF
  have hPc := hP.sub (ws' := (wH cA cL h0 q1 q2 q3 q4 q5 q6 qo st pl tk wd er nx md ou)) [0, 1, 2, 3, 4, 5, 6, 15] rfl
  have hDc := hD.sub (ws' := (wH cA cL h0 q1 q2 q3 q4 q5 q6 qo st pl tk wd er nx md ou)) [0, 1, 2, 3, 4, 5, 6, 15] (by decide) rfl
  have hFc := va_free (wc := (wH cA cL h0 q1 q2 q3 q4 q5 q6 qo st pl tk wd er nx md ou)) hD hS hA [0, 1, 2, 3, 4, 5, 6, 15] rfl
  refine va_calli (tx_runSW (n := 3) (As := [.ref h0, .int (xs (v4 + (1 : Int32)).toNatClampNeg), .ref qo]) (rest := []) ⟨hx, hb, hml, hown, hts⟩ (c_L_place l dC dI cA cL h0 q1 q2 q3 q4 q5 q6 qo H.size st pl tk wd er nx md ou (xs (v4 + (1 : Int32)).toNatClampNeg) r648 ou648 hc648 hfl) (tg_S bq_2_163 bq_2_164 bq_1_0 bq_2_165) rfl rfl rfl (by decide +kernel) ⟨Nat.le_of_ble_eq_true rfl, Nat.le_of_ble_eq_true rfl⟩ ⟨tx_blH, tx_preH hPc hDc hK hNw (tx_E_up hE hS)⟩ rfl rfl hl.1 rfl (lv_room (Nat.le_of_ble_eq_true rfl)) d_L_law_648 ⟨hkc, hks⟩) hS (fun q _ h => hFc q h) hFc (fun zz _u t H locs ht hvm hw hB hz1 hk1 hS => ?_)
  subst hw
  obtain ⟨hP1, hD1⟩ := hB
  rw [ht] at hP1
  obtain ⟨hP2, hD2⟩ := va_join (wr := [(g0, .inr (2, [.int mth, .ref g1, .ref g2, .ref g3, .ref g4, .ref g5, .ref g6, .ref g7, .int mnx, .int mmd, .int mwr])), (g1, .inl (cA, 31, .inl mrm)), (g2, .inl (cA, 80, .inl mfl)), (g3, .inl (cA, 16, .inl mus)), (g4, .inl (cA, 16, .inl mlg)), (g5, .inl (cA, 16, .inl mse)), (g6, .inl (cA, 4, .inl mwe)), (g7, .inl (cA, 8, .inl mwh))]) (w1 := (wH cA cL h0 q1 q2 q3 q4 q5 q6 qo st pl tk wd er nx md ou648)) hP hD [0, 1, 2, 3, 4, 5, 6, 15] [7, 8, 9, 10, 11, 12, 13, 14] rfl rfl (by decide) (by decide) hk1 hFc hP1 hD1
  have hP := hP2.sub (ws' := (wW cA cL h0 q1 q2 q3 q4 q5 q6 g0 g1 g2 g3 g4 g5 g6 g7 qo st pl tk wd er mrm mfl mus mlg mse mwe mwh nx md mth mnx mmd mwr ou648)) [8, 9, 10, 11, 12, 13, 14, 0, 1, 2, 3, 4, 5, 6, 7, 15] rfl
  have hD := hD2.sub (ws' := (wW cA cL h0 q1 q2 q3 q4 q5 q6 g0 g1 g2 g3 g4 g5 g6 g7 qo st pl tk wd er mrm mfl mus mlg mse mwe mwh nx md mth mnx mmd mwr ou648)) [8, 9, 10, 11, 12, 13, 14, 0, 1, 2, 3, 4, 5, 6, 7, 15] (by decide) rfl
  refine lv_istore hx hb d_L_law_651 hl (by decide) rfl (fun ls hl => ?_)
  have hl : lv_has ls 8 [(5, .int r648), (0, .ref b), (1, .ref h0), (2, .ref g0), (3, .ref qo), (4, .int v4)] := hl
  refine lv_aload_n hx hb d_L_law_653 rfl (lv_at hl 3 rfl) ?_
  refine lv_aload_n hx hb d_L_law_654 rfl (lv_at hl 1 rfl) ?_
  refine lv_iload hx hb d_L_law_655 (lv_at hl 5 rfl) ?_
  refine lv_iconst (v := (1 : Int32)) hx hb d_L_law_657 (by decide) ?_
  refine lv_iadd hx hb d_L_law_658 ?_
  obtain ⟨hi659, hF⟩ := tx_g hF
  refine va_sld hx hb hX hbl (Nat.not_le.mpr hbl) hS hi659 d_L_law_659 ?_
  obtain ⟨⟨r660, mth660⟩, hc660, hF⟩ := tx_b hF
  try dsimp only at hF
  have hPc := hP.sub (ws' := (wR cA g0 g1 g2 g3 g4 g5 g6 g7 mrm mfl mus mlg mse mwe mwh mth mnx mmd mwr)) [7, 8, 9, 10, 11, 12, 13, 14] rfl
  have hDc := hD.sub (ws' := (wR cA g0 g1 g2 g3 g4 g5 g6 g7 mrm mfl mus mlg mse mwe mwh mth mnx mmd mwr)) [7, 8, 9, 10, 11, 12, 13, 14] (by decide) rfl
  have hFc := va_free (wc := (wR cA g0 g1 g2 g3 g4 g5 g6 g7 mrm mfl mus mlg mse mwe mwh mth mnx mmd mwr)) hD hS hA [7, 8, 9, 10, 11, 12, 13, 14] rfl
  refine va_calli (va_runV (As := [.int (xs (v4 + (1 : Int32)).toNatClampNeg)]) (rest := []) ⟨hx, hb, hml, hown, hts⟩ (c_R_place l dC dI cA g0 g1 g2 g3 g4 g5 g6 g7 H.size mrm mfl mus mlg mse mwe mwh mth mnx mmd mwr (xs (v4 + (1 : Int32)).toNatClampNeg) r660 mth660 hc660) (cwV 1 hts (tg_V bq_3_99 bq_3_100 bq_3_101 bq_1_4 bq_3_102) rfl rfl rfl (by decide +kernel) ⟨Nat.le_of_ble_eq_true rfl, Nat.le_of_ble_eq_true rfl⟩) ⟨tx_blW, (va_recv (ci := 2) (q0 := 7) hK hP rfl rfl), tx_preW hPc hDc hK1 hNw⟩ rfl rfl hl.1 rfl (lv_room (Nat.le_of_ble_eq_true rfl)) d_L_law_660 ⟨hkc, hks⟩) hS (fun q _ h => hFc q h) hFc (fun zz _u t H locs ht hvm hw hB hz1 hk1 hS => ?_)
  subst hw
  obtain ⟨hP1, hD1⟩ := hB
  rw [ht] at hP1
  obtain ⟨hP2, hD2⟩ := va_join (wr := [(h0, .inr (1, [.ref q1, .ref q2, .ref q3, .ref q4, .int nx, .int md])), (q1, .inr (0, [.ref q5, .ref q6])), (q2, .inl (cA, 16, .inl st)), (q3, .inl (cA, 8, .inl pl)), (q4, .inl (cA, 8, .inl tk)), (q5, .inl (cA, 80, .inl wd)), (q6, .inl (cA, 4, .inl er)), (qo, .inl (cL, 1, .inr (.inl ou648)))]) (w1 := (wR cA g0 g1 g2 g3 g4 g5 g6 g7 mrm mfl mus mlg mse mwe mwh mth660 mnx mmd mwr)) hP hD [7, 8, 9, 10, 11, 12, 13, 14] [0, 1, 2, 3, 4, 5, 6, 15] rfl rfl (by decide) (by decide) hk1 hFc hP1 hD1
  have hP := hP2.sub (ws' := (wW cA cL h0 q1 q2 q3 q4 q5 q6 g0 g1 g2 g3 g4 g5 g6 g7 qo st pl tk wd er mrm mfl mus mlg mse mwe mwh nx md mth660 mnx mmd mwr ou648)) [0, 1, 2, 3, 4, 5, 6, 8, 9, 10, 11, 12, 13, 14, 15, 7] rfl
  have hD := hD2.sub (ws' := (wW cA cL h0 q1 q2 q3 q4 q5 q6 g0 g1 g2 g3 g4 g5 g6 g7 qo st pl tk wd er mrm mfl mus mlg mse mwe mwh nx md mth660 mnx mmd mwr ou648)) [0, 1, 2, 3, 4, 5, 6, 8, 9, 10, 11, 12, 13, 14, 15, 7] (by decide) rfl
  refine lv_istore hx hb d_L_law_663 hl (by decide) rfl (fun ls hl => ?_)
  have hl : lv_has ls 8 [(6, .int r660), (5, .int r648), (0, .ref b), (1, .ref h0), (2, .ref g0), (3, .ref qo), (4, .int v4)] := hl
  refine lv_aload_n hx hb d_L_law_665 rfl (lv_at hl 4 rfl) ?_
  obtain ⟨r666, hc666, hF⟩ := tx_b hF
  refine vp_callSi (W.runV (As := []) (rest := []) ⟨hx, hb, hml, hown, hts⟩ (c_R_thrown l dC dI cA g0 g1 g2 g3 g4 g5 g6 g7 mrm mfl mus mlg mse mwe mwh mth660 mnx mmd mwr r666 hc666) (cwV 0 hts (tg_V bq_2_226 bq_2_227 bq_2_228 bq_1_4 bq_2_229) rfl rfl rfl (by decide +kernel) ⟨Nat.le_of_ble_eq_true rfl, Nat.le_of_ble_eq_true rfl⟩) ⟨tx_blR, (va_recv (ci := 2) (q0 := 7) hK hP rfl rfl), tx_preR (hP.sub (ws' := (wR cA g0 g1 g2 g3 g4 g5 g6 g7 mrm mfl mus mlg mse mwe mwh mth660 mnx mmd mwr)) [7, 8, 9, 10, 11, 12, 13, 14] rfl) hK1⟩ rfl rfl hl.1 rfl (lv_room (Nat.le_of_ble_eq_true rfl)) d_L_law_666 ⟨hkc, hks⟩) (fun zz hz => ?_)
  subst hz
  refine lv_iload hx hb d_L_law_669 (lv_at hl 1 rfl) ?_
  refine lv_icmp_eq hx hb d_L_law_671 (tgt := 676) (by decide) (fun h671 => ?_) (fun h671 => ?_)
  · have hF := tx_t h671 hF
    refine lv_iload hx hb d_L_law_676 (lv_at hl 1 rfl) ?_
    refine lv_if_ne hx hb d_L_law_678 (tgt := 693) (by decide) (fun h678 => ?_) (fun h678 => ?_)
    · have hF := tx_f h678 hF
      exact J693 _ _ _ st pl tk wd er mrm mfl mus mlg mse mwe mwh nx md mth660 mnx mmd mwr ou648 hP hD hS (lv_sub hl [2, 3, 4, 5, 6] rfl) hF
    · have hF := tx_t h678 hF
      refine lv_aload_n hx hb d_L_law_681 rfl (lv_at hl 5 rfl) ?_
      refine lv_iconst (v := (0 : Int32)) hx hb d_L_law_682 (by decide) ?_
      obtain ⟨hi683, hF⟩ := tx_g hF
      refine va_lald hx hb hK hP 15 1 rfl rfl hi683 d_L_law_683 ?_
      refine lv_iload hx hb d_L_law_684 (lv_at hl 0 rfl) ?_
      refine lv_i2l hx hb d_L_law_686 rfl ?_
      refine W.lcmp hx hb d_L_law_687 ?_
      refine lv_if_eq hx hb d_L_law_688 (tgt := 693) (by decide) (fun h688 => ?_) (fun h688 => ?_)
      · have hF := tx_t h688 hF
        exact J693 _ _ _ st pl tk wd er mrm mfl mus mlg mse mwe mwh nx md mth660 mnx mmd mwr ou648 hP hD hS (lv_sub hl [2, 3, 4, 5, 6] rfl) hF
      · have hF := tx_f h688 hF
        refine lv_iconst (v := (0 : Int32)) hx hb d_L_law_691 (by decide) ?_
        cases hF
  · have hF := tx_f h671 hF
    refine lv_iconst (v := (0 : Int32)) hx hb d_L_law_674 (by decide) ?_
    cases hF
def f_W696_J761 (L : Nat) (xs : Nat → Int32) (v4 : Int32) (st : Nat → Int32) (pl : Nat → Int32) (tk : Nat → Int32) (wd : Nat → Int32) (er : Nat → Int32) (mrm : Nat → Int32) (mfl : Nat → Int32) (mus : Nat → Int32) (mlg : Nat → Int32) (mse : Nat → Int32) (mwe : Nat → Int32) (mwh : Nat → Int32) (nx : Int32) (md : Int32) (mth : Int32) (mnx : Int32) (mmd : Int32) (mwr : Int32) (ou : Nat → Int64)  : Option ((Nat → Int32) × (Nat → Int32) × (Nat → Int32) × (Nat → Int32) × (Nat → Int32) × (Nat → Int32) × (Nat → Int32) × (Nat → Int32) × (Nat → Int32) × (Nat → Int32) × (Nat → Int32) × (Nat → Int32) × Int32 × Int32 × Int32 × Int32 × Int32 × Int32 × (Nat → Int64)) := some (st, pl, tk, wd, er, mrm, mfl, mus, mlg, mse, mwe, mwh, nx, md, mth, mnx, mmd, mwr, ou)
def f_W696 (L : Nat) (xs : Nat → Int32) (st : Nat → Int32) (pl : Nat → Int32) (tk : Nat → Int32) (wd : Nat → Int32) (er : Nat → Int32) (mrm : Nat → Int32) (mfl : Nat → Int32) (mus : Nat → Int32) (mlg : Nat → Int32) (mse : Nat → Int32) (mwe : Nat → Int32) (mwh : Nat → Int32) (nx : Int32) (md : Int32) (mth : Int32) (mnx : Int32) (mmd : Int32) (mwr : Int32) (ou : Nat → Int64) (v4 : Int32) : Option ((Nat → Int32) × (Nat → Int32) × (Nat → Int32) × (Nat → Int32) × (Nat → Int32) × (Nat → Int32) × (Nat → Int32) × (Nat → Int32) × (Nat → Int32) × (Nat → Int32) × (Nat → Int32) × (Nat → Int32) × Int32 × Int32 × Int32 × Int32 × Int32 × Int32 × (Nat → Int64)) := if (v4 + (1 : Int32)) < 0 ∨ L ≤ (v4 + (1 : Int32)).toNatClampNeg then none else if (v4 + (2 : Int32)) < 0 ∨ L ≤ (v4 + (2 : Int32)).toNatClampNeg then none else (f_L_state st ou (xs (v4 + (1 : Int32)).toNatClampNeg) (xs (v4 + (2 : Int32)).toNatClampNeg)).bind fun (r710, ou710) => if (v4 + (1 : Int32)) < 0 ∨ L ≤ (v4 + (1 : Int32)).toNatClampNeg then none else if (v4 + (2 : Int32)) < 0 ∨ L ≤ (v4 + (2 : Int32)).toNatClampNeg then none else (f_R_state mus mth (xs (v4 + (1 : Int32)).toNatClampNeg) (xs (v4 + (2 : Int32)).toNatClampNeg)).bind fun (r728, mth728) => (f_R_thrown mth728).bind fun r734 => if r734 = r710 then (if r710 = 0 then (if (0 : Int32) < 0 ∨ 1 ≤ (0 : Int32).toNatClampNeg then none else if (lg_cmp (ou710 (0 : Int32).toNatClampNeg) r728.toInt64) = 0 then (f_W696_J761 L xs v4 st pl tk wd er mrm mfl mus mlg mse mwe mwh nx md mth728 mnx mmd mwr ou710) else (none)) else (f_W696_J761 L xs v4 st pl tk wd er mrm mfl mus mlg mse mwe mwh nx md mth728 mnx mmd mwr ou710)) else (none)
set_option maxHeartbeats 4000000 in
set_option maxRecDepth 100000 in
theorem cs_696 {p : Program} {l : Launch} {e : Env} {s : State} {m : MethodId} {args : Array Value} {below : List Frame} {meth : Method} {c : Code} {Q : State → Prop} {c1 : Cond} (hx : p.tables.exec = Jvm.exec) (hb : c.code = b_L_law) (hml : c.maxLocals = 8) (hown : s.vm.findClass "FlashStoreLaw" = some m.cls) (hts : ∀ w ∈ c1 :: bw, w.before args s = true) (hfl : l.flags = pinnedFlags ++ [noTraceFlag]) {dC : Nat → ClassId} {dI : Nat → Nat → Nat} {cA cL : ClassId} (hK : va_K (dC, dI) vwCl [(cA, .int), (cL, .long)] s) (hNw : va_Nw tx_nest s) (hE : tx_E s) {b L : Nat} {xs : Nat → Int32} (hX : va_X b L xs s s.heap) (hbl : b < s.heap.size) (h0 q1 q2 q3 q4 q5 q6 g0 g1 g2 g3 g4 g5 g6 g7 qo : Nat) (st pl tk wd er mrm mfl mus mlg mse mwe mwh : Nat → Int32) (nx md mth mnx mmd mwr : Int32) (ou : Nat → Int64) (v4 : Int32) (kc ks : Nat) (hkc : kc + 1 ≤ 601024) (hks : ks + 6 ≤ 7293034) (st' : Nat → Int32) (pl' : Nat → Int32) (tk' : Nat → Int32) (wd' : Nat → Int32) (er' : Nat → Int32) (mrm' : Nat → Int32) (mfl' : Nat → Int32) (mus' : Nat → Int32) (mlg' : Nat → Int32) (mse' : Nat → Int32) (mwe' : Nat → Int32) (mwh' : Nat → Int32) (nx' : Int32) (md' : Int32) (mth' : Int32) (mnx' : Int32) (mmd' : Int32) (mwr' : Int32) (ou' : Nat → Int64) (hF : f_W696 L xs st pl tk wd er mrm mfl mus mlg mse mwe mwh nx md mth mnx mmd mwr ou v4 = some (st', pl', tk', wd', er', mrm', mfl', mus', mlg', mse', mwe', mwh', nx', md', mth', mnx', mmd', mwr', ou')) (hnext : ∀ (H : Heap) (locs : List Loc) (ls : Array Slot), va_P (dC, dI) vwCl (wW cA cL h0 q1 q2 q3 q4 q5 q6 g0 g1 g2 g3 g4 g5 g6 g7 qo (st') (pl') (tk') (wd') (er') (mrm') (mfl') (mus') (mlg') (mse') (mwe') (mwh') (nx') (md') (mth') (mnx') (mmd') (mwr') (ou')) H → va_D (fun q => s.heap.size ≤ q) (wW cA cL h0 q1 q2 q3 q4 q5 q6 g0 g1 g2 g3 g4 g5 g6 g7 qo (st') (pl') (tk') (wd') (er') (mrm') (mfl') (mus') (mlg') (mse') (mwe') (mwh') (nx') (md') (mth') (mnx') (mmd') (mwr') (ou')) → va_S (fun q => s.heap.size ≤ q) s.heap H locs → lv_has ls 8 [(0, .ref b), (1, .ref h0), (2, .ref g0), (3, .ref qo), (4, .int v4)] → W p l e room_1 s m args below meth c H locs (kc + 1) (ks + 6) Q (F0 m 833 ls [])) (H : Heap) (locs : List Loc) (ls : Array Slot) (hP : va_P (dC, dI) vwCl (wW cA cL h0 q1 q2 q3 q4 q5 q6 g0 g1 g2 g3 g4 g5 g6 g7 qo st pl tk wd er mrm mfl mus mlg mse mwe mwh nx md mth mnx mmd mwr ou) H) (hD : va_D (fun q => s.heap.size ≤ q) (wW cA cL h0 q1 q2 q3 q4 q5 q6 g0 g1 g2 g3 g4 g5 g6 g7 qo st pl tk wd er mrm mfl mus mlg mse mwe mwh nx md mth mnx mmd mwr ou)) (hS : va_S (fun q => s.heap.size ≤ q) s.heap H locs) (hl : lv_has ls 8 [(0, .ref b), (1, .ref h0), (2, .ref g0), (3, .ref qo), (4, .int v4)]) : W p l e room_1 s m args below meth c H locs kc ks Q (F0 m 696 ls []) := by
  have hK1 : va_K (dC, dI) vwCl [(cA, .int)] s := hK.sub [0] rfl
  have hA : ∀ q : Nat, s.heap.size ≤ q → s.heap.size ≤ q := fun _ h => h
  have J761 : ∀ (H : Heap) (locs : List Loc) (ls : Array Slot) (st : Nat → Int32) (pl : Nat → Int32) (tk : Nat → Int32) (wd : Nat → Int32) (er : Nat → Int32) (mrm : Nat → Int32) (mfl : Nat → Int32) (mus : Nat → Int32) (mlg : Nat → Int32) (mse : Nat → Int32) (mwe : Nat → Int32) (mwh : Nat → Int32) (nx : Int32) (md : Int32) (mth : Int32) (mnx : Int32) (mmd : Int32) (mwr : Int32) (ou : Nat → Int64), va_P (dC, dI) vwCl (wW cA cL h0 q1 q2 q3 q4 q5 q6 g0 g1 g2 g3 g4 g5 g6 g7 qo st pl tk wd er mrm mfl mus mlg mse mwe mwh nx md mth mnx mmd mwr ou) H → va_D (fun q => s.heap.size ≤ q) (wW cA cL h0 q1 q2 q3 q4 q5 q6 g0 g1 g2 g3 g4 g5 g6 g7 qo st pl tk wd er mrm mfl mus mlg mse mwe mwh nx md mth mnx mmd mwr ou) → va_S (fun q => s.heap.size ≤ q) s.heap H locs → lv_has ls 8 [(0, .ref b), (1, .ref h0), (2, .ref g0), (3, .ref qo), (4, .int v4)] → f_W696_J761 L xs v4 st pl tk wd er mrm mfl mus mlg mse mwe mwh nx md mth mnx mmd mwr ou = some (st', pl', tk', wd', er', mrm', mfl', mus', mlg', mse', mwe', mwh', nx', md', mth', mnx', mmd', mwr', ou') → W p l e room_1 s m args below meth c H locs (kc + 1) (ks + 6) Q (F0 m 761 ls []) := by
    intro H locs ls st pl tk wd er mrm mfl mus mlg mse mwe mwh nx md mth mnx mmd mwr ou hP hD hS hl hF
    have hF : (some (st, pl, tk, wd, er, mrm, mfl, mus, mlg, mse, mwe, mwh, nx, md, mth, mnx, mmd, mwr, ou)) = some (st', pl', tk', wd', er', mrm', mfl', mus', mlg', mse', mwe', mwh', nx', md', mth', mnx', mmd', mwr', ou') := hF
    refine lv_goto hx hb d_L_law_761 (tgt := 833) (by decide) ?_
    cases hF
    exact hnext _ _ _ hP hD hS (lv_sub hl [0, 1, 2, 3, 4] rfl)
  have hF : (if (v4 + (1 : Int32)) < 0 ∨ L ≤ (v4 + (1 : Int32)).toNatClampNeg then none else if (v4 + (2 : Int32)) < 0 ∨ L ≤ (v4 + (2 : Int32)).toNatClampNeg then none else (f_L_state st ou (xs (v4 + (1 : Int32)).toNatClampNeg) (xs (v4 + (2 : Int32)).toNatClampNeg)).bind fun (r710, ou710) => if (v4 + (1 : Int32)) < 0 ∨ L ≤ (v4 + (1 : Int32)).toNatClampNeg then none else if (v4 + (2 : Int32)) < 0 ∨ L ≤ (v4 + (2 : Int32)).toNatClampNeg then none else (f_R_state mus mth (xs (v4 + (1 : Int32)).toNatClampNeg) (xs (v4 + (2 : Int32)).toNatClampNeg)).bind fun (r728, mth728) => (f_R_thrown mth728).bind fun r734 => if r734 = r710 then (if r710 = 0 then (if (0 : Int32) < 0 ∨ 1 ≤ (0 : Int32).toNatClampNeg then none else if (lg_cmp (ou710 (0 : Int32).toNatClampNeg) r728.toInt64) = 0 then (f_W696_J761 L xs v4 st pl tk wd er mrm mfl mus mlg mse mwe mwh nx md mth728 mnx mmd mwr ou710) else (none)) else (f_W696_J761 L xs v4 st pl tk wd er mrm mfl mus mlg mse mwe mwh nx md mth728 mnx mmd mwr ou710)) else (none)) = some (st', pl', tk', wd', er', mrm', mfl', mus', mlg', mse', mwe', mwh', nx', md', mth', mnx', mmd', mwr', ou') := hF
  refine lv_aload_n hx hb d_L_law_696 rfl (lv_at hl 1 rfl) ?_
  refine lv_aload_n hx hb d_L_law_697 rfl (lv_at hl 0 rfl) ?_
  refine lv_iload hx hb d_L_law_698 (lv_at hl 4 rfl) ?_
  refine lv_iconst (v := (1 : Int32)) hx hb d_L_law_700 (by decide) ?_
  refine lv_iadd hx hb d_L_law_701 ?_
  obtain ⟨hi702, hF⟩ := tx_g hF
  refine va_sld hx hb hX hbl (Nat.not_le.mpr hbl) hS hi702 d_L_law_702 ?_
  refine lv_aload_n hx hb d_L_law_703 rfl (lv_at hl 0 rfl) ?_
  refine lv_iload hx hb d_L_law_704 (lv_at hl 4 rfl) ?_
  refine lv_iconst (v := (2 : Int32)) hx hb d_L_law_706 (by decide) ?_
  refine lv_iadd hx hb d_L_law_707 ?_
  obtain ⟨hi708, hF⟩ := tx_g hF
  refine va_sld hx hb hX hbl (Nat.not_le.mpr hbl) hS hi708 d_L_law_708 ?_
  refine lv_aload_n hx hb d_L_law_709 rfl (lv_at hl 3 rfl) ?_
  obtain ⟨⟨r710, ou710⟩, hc710, hF⟩ := tx_b hF
  try dsimp only at hF
  have hPc := hP.sub (ws' := (wH cA cL h0 q1 q2 q3 q4 q5 q6 qo st pl tk wd er nx md ou)) [0, 1, 2, 3, 4, 5, 6, 15] rfl
  have hDc := hD.sub (ws' := (wH cA cL h0 q1 q2 q3 q4 q5 q6 qo st pl tk wd er nx md ou)) [0, 1, 2, 3, 4, 5, 6, 15] (by decide) rfl
  have hFc := va_free (wc := (wH cA cL h0 q1 q2 q3 q4 q5 q6 qo st pl tk wd er nx md ou)) hD hS hA [0, 1, 2, 3, 4, 5, 6, 15] rfl
  refine va_calli (tx_runSW (n := 4) (As := [.ref h0, .int (xs (v4 + (1 : Int32)).toNatClampNeg), .int (xs (v4 + (2 : Int32)).toNatClampNeg), .ref qo]) (rest := []) ⟨hx, hb, hml, hown, hts⟩ (c_L_state l dC dI cA cL h0 q1 q2 q3 q4 q5 q6 qo H.size st pl tk wd er nx md ou (xs (v4 + (1 : Int32)).toNatClampNeg) (xs (v4 + (2 : Int32)).toNatClampNeg) r710 ou710 hc710 hfl) (tg_S bq_2_170 bq_2_171 bq_1_0 bq_2_172) rfl rfl rfl (by decide +kernel) ⟨Nat.le_of_ble_eq_true rfl, Nat.le_of_ble_eq_true rfl⟩ ⟨tx_blH, tx_preH hPc hDc hK hNw (tx_E_up hE hS)⟩ rfl rfl hl.1 rfl (lv_room (Nat.le_of_ble_eq_true rfl)) d_L_law_710 ⟨hkc, hks⟩) hS (fun q _ h => hFc q h) hFc (fun zz _u t H locs ht hvm hw hB hz1 hk1 hS => ?_)
  subst hw
  obtain ⟨hP1, hD1⟩ := hB
  rw [ht] at hP1
  obtain ⟨hP2, hD2⟩ := va_join (wr := [(g0, .inr (2, [.int mth, .ref g1, .ref g2, .ref g3, .ref g4, .ref g5, .ref g6, .ref g7, .int mnx, .int mmd, .int mwr])), (g1, .inl (cA, 31, .inl mrm)), (g2, .inl (cA, 80, .inl mfl)), (g3, .inl (cA, 16, .inl mus)), (g4, .inl (cA, 16, .inl mlg)), (g5, .inl (cA, 16, .inl mse)), (g6, .inl (cA, 4, .inl mwe)), (g7, .inl (cA, 8, .inl mwh))]) (w1 := (wH cA cL h0 q1 q2 q3 q4 q5 q6 qo st pl tk wd er nx md ou710)) hP hD [0, 1, 2, 3, 4, 5, 6, 15] [7, 8, 9, 10, 11, 12, 13, 14] rfl rfl (by decide) (by decide) hk1 hFc hP1 hD1
  have hP := hP2.sub (ws' := (wW cA cL h0 q1 q2 q3 q4 q5 q6 g0 g1 g2 g3 g4 g5 g6 g7 qo st pl tk wd er mrm mfl mus mlg mse mwe mwh nx md mth mnx mmd mwr ou710)) [8, 9, 10, 11, 12, 13, 14, 0, 1, 2, 3, 4, 5, 6, 7, 15] rfl
  have hD := hD2.sub (ws' := (wW cA cL h0 q1 q2 q3 q4 q5 q6 g0 g1 g2 g3 g4 g5 g6 g7 qo st pl tk wd er mrm mfl mus mlg mse mwe mwh nx md mth mnx mmd mwr ou710)) [8, 9, 10, 11, 12, 13, 14, 0, 1, 2, 3, 4, 5, 6, 7, 15] (by decide) rfl
  refine lv_istore hx hb d_L_law_713 hl (by decide) rfl (fun ls hl => ?_)
  have hl : lv_has ls 8 [(5, .int r710), (0, .ref b), (1, .ref h0), (2, .ref g0), (3, .ref qo), (4, .int v4)] := hl
  refine lv_aload_n hx hb d_L_law_715 rfl (lv_at hl 3 rfl) ?_
  refine lv_aload_n hx hb d_L_law_716 rfl (lv_at hl 1 rfl) ?_
  refine lv_iload hx hb d_L_law_717 (lv_at hl 5 rfl) ?_
  refine lv_iconst (v := (1 : Int32)) hx hb d_L_law_719 (by decide) ?_
  refine lv_iadd hx hb d_L_law_720 ?_
  obtain ⟨hi721, hF⟩ := tx_g hF
  refine va_sld hx hb hX hbl (Nat.not_le.mpr hbl) hS hi721 d_L_law_721 ?_
  refine lv_aload_n hx hb d_L_law_722 rfl (lv_at hl 1 rfl) ?_
  refine lv_iload hx hb d_L_law_723 (lv_at hl 5 rfl) ?_
  refine lv_iconst (v := (2 : Int32)) hx hb d_L_law_725 (by decide) ?_
  refine lv_iadd hx hb d_L_law_726 ?_
  obtain ⟨hi727, hF⟩ := tx_g hF
  refine va_sld hx hb hX hbl (Nat.not_le.mpr hbl) hS hi727 d_L_law_727 ?_
  obtain ⟨⟨r728, mth728⟩, hc728, hF⟩ := tx_b hF
  try dsimp only at hF
  have hPc := hP.sub (ws' := (wR cA g0 g1 g2 g3 g4 g5 g6 g7 mrm mfl mus mlg mse mwe mwh mth mnx mmd mwr)) [7, 8, 9, 10, 11, 12, 13, 14] rfl
  have hDc := hD.sub (ws' := (wR cA g0 g1 g2 g3 g4 g5 g6 g7 mrm mfl mus mlg mse mwe mwh mth mnx mmd mwr)) [7, 8, 9, 10, 11, 12, 13, 14] (by decide) rfl
  have hFc := va_free (wc := (wR cA g0 g1 g2 g3 g4 g5 g6 g7 mrm mfl mus mlg mse mwe mwh mth mnx mmd mwr)) hD hS hA [7, 8, 9, 10, 11, 12, 13, 14] rfl
  refine va_calli (va_runV (As := [.int (xs (v4 + (1 : Int32)).toNatClampNeg), .int (xs (v4 + (2 : Int32)).toNatClampNeg)]) (rest := []) ⟨hx, hb, hml, hown, hts⟩ (c_R_state l dC dI cA g0 g1 g2 g3 g4 g5 g6 g7 H.size mrm mfl mus mlg mse mwe mwh mth mnx mmd mwr (xs (v4 + (1 : Int32)).toNatClampNeg) (xs (v4 + (2 : Int32)).toNatClampNeg) r728 mth728 hc728) (cwV 2 hts (tg_V bq_3_103 bq_3_104 bq_3_105 bq_1_4 bq_3_106) rfl rfl rfl (by decide +kernel) ⟨Nat.le_of_ble_eq_true rfl, Nat.le_of_ble_eq_true rfl⟩) ⟨tx_blW, (va_recv (ci := 2) (q0 := 7) hK hP rfl rfl), tx_preW hPc hDc hK1 hNw⟩ rfl rfl hl.1 rfl (lv_room (Nat.le_of_ble_eq_true rfl)) d_L_law_728 ⟨hkc, hks⟩) hS (fun q _ h => hFc q h) hFc (fun zz _u t H locs ht hvm hw hB hz1 hk1 hS => ?_)
  subst hw
  obtain ⟨hP1, hD1⟩ := hB
  rw [ht] at hP1
  obtain ⟨hP2, hD2⟩ := va_join (wr := [(h0, .inr (1, [.ref q1, .ref q2, .ref q3, .ref q4, .int nx, .int md])), (q1, .inr (0, [.ref q5, .ref q6])), (q2, .inl (cA, 16, .inl st)), (q3, .inl (cA, 8, .inl pl)), (q4, .inl (cA, 8, .inl tk)), (q5, .inl (cA, 80, .inl wd)), (q6, .inl (cA, 4, .inl er)), (qo, .inl (cL, 1, .inr (.inl ou710)))]) (w1 := (wR cA g0 g1 g2 g3 g4 g5 g6 g7 mrm mfl mus mlg mse mwe mwh mth728 mnx mmd mwr)) hP hD [7, 8, 9, 10, 11, 12, 13, 14] [0, 1, 2, 3, 4, 5, 6, 15] rfl rfl (by decide) (by decide) hk1 hFc hP1 hD1
  have hP := hP2.sub (ws' := (wW cA cL h0 q1 q2 q3 q4 q5 q6 g0 g1 g2 g3 g4 g5 g6 g7 qo st pl tk wd er mrm mfl mus mlg mse mwe mwh nx md mth728 mnx mmd mwr ou710)) [0, 1, 2, 3, 4, 5, 6, 8, 9, 10, 11, 12, 13, 14, 15, 7] rfl
  have hD := hD2.sub (ws' := (wW cA cL h0 q1 q2 q3 q4 q5 q6 g0 g1 g2 g3 g4 g5 g6 g7 qo st pl tk wd er mrm mfl mus mlg mse mwe mwh nx md mth728 mnx mmd mwr ou710)) [0, 1, 2, 3, 4, 5, 6, 8, 9, 10, 11, 12, 13, 14, 15, 7] (by decide) rfl
  refine lv_istore hx hb d_L_law_731 hl (by decide) rfl (fun ls hl => ?_)
  have hl : lv_has ls 8 [(6, .int r728), (5, .int r710), (0, .ref b), (1, .ref h0), (2, .ref g0), (3, .ref qo), (4, .int v4)] := hl
  refine lv_aload_n hx hb d_L_law_733 rfl (lv_at hl 4 rfl) ?_
  obtain ⟨r734, hc734, hF⟩ := tx_b hF
  refine vp_callSi (W.runV (As := []) (rest := []) ⟨hx, hb, hml, hown, hts⟩ (c_R_thrown l dC dI cA g0 g1 g2 g3 g4 g5 g6 g7 mrm mfl mus mlg mse mwe mwh mth728 mnx mmd mwr r734 hc734) (cwV 0 hts (tg_V bq_2_226 bq_2_227 bq_2_228 bq_1_4 bq_2_229) rfl rfl rfl (by decide +kernel) ⟨Nat.le_of_ble_eq_true rfl, Nat.le_of_ble_eq_true rfl⟩) ⟨tx_blR, (va_recv (ci := 2) (q0 := 7) hK hP rfl rfl), tx_preR (hP.sub (ws' := (wR cA g0 g1 g2 g3 g4 g5 g6 g7 mrm mfl mus mlg mse mwe mwh mth728 mnx mmd mwr)) [7, 8, 9, 10, 11, 12, 13, 14] rfl) hK1⟩ rfl rfl hl.1 rfl (lv_room (Nat.le_of_ble_eq_true rfl)) d_L_law_734 ⟨hkc, hks⟩) (fun zz hz => ?_)
  subst hz
  refine lv_iload hx hb d_L_law_737 (lv_at hl 1 rfl) ?_
  refine lv_icmp_eq hx hb d_L_law_739 (tgt := 744) (by decide) (fun h739 => ?_) (fun h739 => ?_)
  · have hF := tx_t h739 hF
    refine lv_iload hx hb d_L_law_744 (lv_at hl 1 rfl) ?_
    refine lv_if_ne hx hb d_L_law_746 (tgt := 761) (by decide) (fun h746 => ?_) (fun h746 => ?_)
    · have hF := tx_f h746 hF
      exact J761 _ _ _ st pl tk wd er mrm mfl mus mlg mse mwe mwh nx md mth728 mnx mmd mwr ou710 hP hD hS (lv_sub hl [2, 3, 4, 5, 6] rfl) hF
    · have hF := tx_t h746 hF
      refine lv_aload_n hx hb d_L_law_749 rfl (lv_at hl 5 rfl) ?_
      refine lv_iconst (v := (0 : Int32)) hx hb d_L_law_750 (by decide) ?_
      obtain ⟨hi751, hF⟩ := tx_g hF
      refine va_lald hx hb hK hP 15 1 rfl rfl hi751 d_L_law_751 ?_
      refine lv_iload hx hb d_L_law_752 (lv_at hl 0 rfl) ?_
      refine lv_i2l hx hb d_L_law_754 rfl ?_
      refine W.lcmp hx hb d_L_law_755 ?_
      refine lv_if_eq hx hb d_L_law_756 (tgt := 761) (by decide) (fun h756 => ?_) (fun h756 => ?_)
      · have hF := tx_t h756 hF
        exact J761 _ _ _ st pl tk wd er mrm mfl mus mlg mse mwe mwh nx md mth728 mnx mmd mwr ou710 hP hD hS (lv_sub hl [2, 3, 4, 5, 6] rfl) hF
      · have hF := tx_f h756 hF
        refine lv_iconst (v := (0 : Int32)) hx hb d_L_law_759 (by decide) ?_
        cases hF
  · have hF := tx_f h739 hF
    refine lv_iconst (v := (0 : Int32)) hx hb d_L_law_742 (by decide) ?_
    cases hF
def f_W764_J817 (L : Nat) (xs : Nat → Int32) (v4 : Int32) (st : Nat → Int32) (pl : Nat → Int32) (tk : Nat → Int32) (wd : Nat → Int32) (er : Nat → Int32) (mrm : Nat → Int32) (mfl : Nat → Int32) (mus : Nat → Int32) (mlg : Nat → Int32) (mse : Nat → Int32) (mwe : Nat → Int32) (mwh : Nat → Int32) (nx : Int32) (md : Int32) (mth : Int32) (mnx : Int32) (mmd : Int32) (mwr : Int32) (ou : Nat → Int64)  : Option ((Nat → Int32) × (Nat → Int32) × (Nat → Int32) × (Nat → Int32) × (Nat → Int32) × (Nat → Int32) × (Nat → Int32) × (Nat → Int32) × (Nat → Int32) × (Nat → Int32) × (Nat → Int32) × (Nat → Int32) × Int32 × Int32 × Int32 × Int32 × Int32 × Int32 × (Nat → Int64)) := some (st, pl, tk, wd, er, mrm, mfl, mus, mlg, mse, mwe, mwh, nx, md, mth, mnx, mmd, mwr, ou)
def f_W764 (L : Nat) (xs : Nat → Int32) (st : Nat → Int32) (pl : Nat → Int32) (tk : Nat → Int32) (wd : Nat → Int32) (er : Nat → Int32) (mrm : Nat → Int32) (mfl : Nat → Int32) (mus : Nat → Int32) (mlg : Nat → Int32) (mse : Nat → Int32) (mwe : Nat → Int32) (mwh : Nat → Int32) (nx : Int32) (md : Int32) (mth : Int32) (mnx : Int32) (mmd : Int32) (mwr : Int32) (ou : Nat → Int64) (v4 : Int32) : Option ((Nat → Int32) × (Nat → Int32) × (Nat → Int32) × (Nat → Int32) × (Nat → Int32) × (Nat → Int32) × (Nat → Int32) × (Nat → Int32) × (Nat → Int32) × (Nat → Int32) × (Nat → Int32) × (Nat → Int32) × Int32 × Int32 × Int32 × Int32 × Int32 × Int32 × (Nat → Int64)) := if (v4 + (1 : Int32)) < 0 ∨ L ≤ (v4 + (1 : Int32)).toNatClampNeg then none else (f_L_wear er ou (xs (v4 + (1 : Int32)).toNatClampNeg)).bind fun (r772, ou772) => if (v4 + (1 : Int32)) < 0 ∨ L ≤ (v4 + (1 : Int32)).toNatClampNeg then none else (f_R_wear mwe mth (xs (v4 + (1 : Int32)).toNatClampNeg)).bind fun (r784, mth784) => (f_R_thrown mth784).bind fun r790 => if r790 = r772 then (if r772 = 0 then (if (0 : Int32) < 0 ∨ 1 ≤ (0 : Int32).toNatClampNeg then none else if (lg_cmp (ou772 (0 : Int32).toNatClampNeg) r784.toInt64) = 0 then (f_W764_J817 L xs v4 st pl tk wd er mrm mfl mus mlg mse mwe mwh nx md mth784 mnx mmd mwr ou772) else (none)) else (f_W764_J817 L xs v4 st pl tk wd er mrm mfl mus mlg mse mwe mwh nx md mth784 mnx mmd mwr ou772)) else (none)
set_option maxHeartbeats 4000000 in
set_option maxRecDepth 100000 in
theorem cs_764 {p : Program} {l : Launch} {e : Env} {s : State} {m : MethodId} {args : Array Value} {below : List Frame} {meth : Method} {c : Code} {Q : State → Prop} {c1 : Cond} (hx : p.tables.exec = Jvm.exec) (hb : c.code = b_L_law) (hml : c.maxLocals = 8) (hown : s.vm.findClass "FlashStoreLaw" = some m.cls) (hts : ∀ w ∈ c1 :: bw, w.before args s = true) (hfl : l.flags = pinnedFlags ++ [noTraceFlag]) {dC : Nat → ClassId} {dI : Nat → Nat → Nat} {cA cL : ClassId} (hK : va_K (dC, dI) vwCl [(cA, .int), (cL, .long)] s) (hNw : va_Nw tx_nest s) (hE : tx_E s) {b L : Nat} {xs : Nat → Int32} (hX : va_X b L xs s s.heap) (hbl : b < s.heap.size) (h0 q1 q2 q3 q4 q5 q6 g0 g1 g2 g3 g4 g5 g6 g7 qo : Nat) (st pl tk wd er mrm mfl mus mlg mse mwe mwh : Nat → Int32) (nx md mth mnx mmd mwr : Int32) (ou : Nat → Int64) (v4 : Int32) (kc ks : Nat) (hkc : kc + 1 ≤ 601024) (hks : ks + 6 ≤ 7293034) (st' : Nat → Int32) (pl' : Nat → Int32) (tk' : Nat → Int32) (wd' : Nat → Int32) (er' : Nat → Int32) (mrm' : Nat → Int32) (mfl' : Nat → Int32) (mus' : Nat → Int32) (mlg' : Nat → Int32) (mse' : Nat → Int32) (mwe' : Nat → Int32) (mwh' : Nat → Int32) (nx' : Int32) (md' : Int32) (mth' : Int32) (mnx' : Int32) (mmd' : Int32) (mwr' : Int32) (ou' : Nat → Int64) (hF : f_W764 L xs st pl tk wd er mrm mfl mus mlg mse mwe mwh nx md mth mnx mmd mwr ou v4 = some (st', pl', tk', wd', er', mrm', mfl', mus', mlg', mse', mwe', mwh', nx', md', mth', mnx', mmd', mwr', ou')) (hnext : ∀ (H : Heap) (locs : List Loc) (ls : Array Slot), va_P (dC, dI) vwCl (wW cA cL h0 q1 q2 q3 q4 q5 q6 g0 g1 g2 g3 g4 g5 g6 g7 qo (st') (pl') (tk') (wd') (er') (mrm') (mfl') (mus') (mlg') (mse') (mwe') (mwh') (nx') (md') (mth') (mnx') (mmd') (mwr') (ou')) H → va_D (fun q => s.heap.size ≤ q) (wW cA cL h0 q1 q2 q3 q4 q5 q6 g0 g1 g2 g3 g4 g5 g6 g7 qo (st') (pl') (tk') (wd') (er') (mrm') (mfl') (mus') (mlg') (mse') (mwe') (mwh') (nx') (md') (mth') (mnx') (mmd') (mwr') (ou')) → va_S (fun q => s.heap.size ≤ q) s.heap H locs → lv_has ls 8 [(0, .ref b), (1, .ref h0), (2, .ref g0), (3, .ref qo), (4, .int v4)] → W p l e room_1 s m args below meth c H locs (kc + 1) (ks + 6) Q (F0 m 833 ls [])) (H : Heap) (locs : List Loc) (ls : Array Slot) (hP : va_P (dC, dI) vwCl (wW cA cL h0 q1 q2 q3 q4 q5 q6 g0 g1 g2 g3 g4 g5 g6 g7 qo st pl tk wd er mrm mfl mus mlg mse mwe mwh nx md mth mnx mmd mwr ou) H) (hD : va_D (fun q => s.heap.size ≤ q) (wW cA cL h0 q1 q2 q3 q4 q5 q6 g0 g1 g2 g3 g4 g5 g6 g7 qo st pl tk wd er mrm mfl mus mlg mse mwe mwh nx md mth mnx mmd mwr ou)) (hS : va_S (fun q => s.heap.size ≤ q) s.heap H locs) (hl : lv_has ls 8 [(0, .ref b), (1, .ref h0), (2, .ref g0), (3, .ref qo), (4, .int v4)]) : W p l e room_1 s m args below meth c H locs kc ks Q (F0 m 764 ls []) := by
  have hK1 : va_K (dC, dI) vwCl [(cA, .int)] s := hK.sub [0] rfl
  have hA : ∀ q : Nat, s.heap.size ≤ q → s.heap.size ≤ q := fun _ h => h
  have J817 : ∀ (H : Heap) (locs : List Loc) (ls : Array Slot) (st : Nat → Int32) (pl : Nat → Int32) (tk : Nat → Int32) (wd : Nat → Int32) (er : Nat → Int32) (mrm : Nat → Int32) (mfl : Nat → Int32) (mus : Nat → Int32) (mlg : Nat → Int32) (mse : Nat → Int32) (mwe : Nat → Int32) (mwh : Nat → Int32) (nx : Int32) (md : Int32) (mth : Int32) (mnx : Int32) (mmd : Int32) (mwr : Int32) (ou : Nat → Int64), va_P (dC, dI) vwCl (wW cA cL h0 q1 q2 q3 q4 q5 q6 g0 g1 g2 g3 g4 g5 g6 g7 qo st pl tk wd er mrm mfl mus mlg mse mwe mwh nx md mth mnx mmd mwr ou) H → va_D (fun q => s.heap.size ≤ q) (wW cA cL h0 q1 q2 q3 q4 q5 q6 g0 g1 g2 g3 g4 g5 g6 g7 qo st pl tk wd er mrm mfl mus mlg mse mwe mwh nx md mth mnx mmd mwr ou) → va_S (fun q => s.heap.size ≤ q) s.heap H locs → lv_has ls 8 [(0, .ref b), (1, .ref h0), (2, .ref g0), (3, .ref qo), (4, .int v4)] → f_W764_J817 L xs v4 st pl tk wd er mrm mfl mus mlg mse mwe mwh nx md mth mnx mmd mwr ou = some (st', pl', tk', wd', er', mrm', mfl', mus', mlg', mse', mwe', mwh', nx', md', mth', mnx', mmd', mwr', ou') → W p l e room_1 s m args below meth c H locs (kc + 1) (ks + 6) Q (F0 m 817 ls []) := by
    intro H locs ls st pl tk wd er mrm mfl mus mlg mse mwe mwh nx md mth mnx mmd mwr ou hP hD hS hl hF
    have hF : (some (st, pl, tk, wd, er, mrm, mfl, mus, mlg, mse, mwe, mwh, nx, md, mth, mnx, mmd, mwr, ou)) = some (st', pl', tk', wd', er', mrm', mfl', mus', mlg', mse', mwe', mwh', nx', md', mth', mnx', mmd', mwr', ou') := hF
    refine lv_goto hx hb d_L_law_817 (tgt := 833) (by decide) ?_
    cases hF
    exact hnext _ _ _ hP hD hS (lv_sub hl [0, 1, 2, 3, 4] rfl)
  have hF : (if (v4 + (1 : Int32)) < 0 ∨ L ≤ (v4 + (1 : Int32)).toNatClampNeg then none else (f_L_wear er ou (xs (v4 + (1 : Int32)).toNatClampNeg)).bind fun (r772, ou772) => if (v4 + (1 : Int32)) < 0 ∨ L ≤ (v4 + (1 : Int32)).toNatClampNeg then none else (f_R_wear mwe mth (xs (v4 + (1 : Int32)).toNatClampNeg)).bind fun (r784, mth784) => (f_R_thrown mth784).bind fun r790 => if r790 = r772 then (if r772 = 0 then (if (0 : Int32) < 0 ∨ 1 ≤ (0 : Int32).toNatClampNeg then none else if (lg_cmp (ou772 (0 : Int32).toNatClampNeg) r784.toInt64) = 0 then (f_W764_J817 L xs v4 st pl tk wd er mrm mfl mus mlg mse mwe mwh nx md mth784 mnx mmd mwr ou772) else (none)) else (f_W764_J817 L xs v4 st pl tk wd er mrm mfl mus mlg mse mwe mwh nx md mth784 mnx mmd mwr ou772)) else (none)) = some (st', pl', tk', wd', er', mrm', mfl', mus', mlg', mse', mwe', mwh', nx', md', mth', mnx', mmd', mwr', ou') := hF
  refine lv_aload_n hx hb d_L_law_764 rfl (lv_at hl 1 rfl) ?_
  refine lv_aload_n hx hb d_L_law_765 rfl (lv_at hl 0 rfl) ?_
  refine lv_iload hx hb d_L_law_766 (lv_at hl 4 rfl) ?_
  refine lv_iconst (v := (1 : Int32)) hx hb d_L_law_768 (by decide) ?_
  refine lv_iadd hx hb d_L_law_769 ?_
  obtain ⟨hi770, hF⟩ := tx_g hF
  refine va_sld hx hb hX hbl (Nat.not_le.mpr hbl) hS hi770 d_L_law_770 ?_
  refine lv_aload_n hx hb d_L_law_771 rfl (lv_at hl 3 rfl) ?_
  obtain ⟨⟨r772, ou772⟩, hc772, hF⟩ := tx_b hF
  try dsimp only at hF
  have hPc := hP.sub (ws' := (wH cA cL h0 q1 q2 q3 q4 q5 q6 qo st pl tk wd er nx md ou)) [0, 1, 2, 3, 4, 5, 6, 15] rfl
  have hDc := hD.sub (ws' := (wH cA cL h0 q1 q2 q3 q4 q5 q6 qo st pl tk wd er nx md ou)) [0, 1, 2, 3, 4, 5, 6, 15] (by decide) rfl
  have hFc := va_free (wc := (wH cA cL h0 q1 q2 q3 q4 q5 q6 qo st pl tk wd er nx md ou)) hD hS hA [0, 1, 2, 3, 4, 5, 6, 15] rfl
  refine va_calli (tx_runSW (n := 3) (As := [.ref h0, .int (xs (v4 + (1 : Int32)).toNatClampNeg), .ref qo]) (rest := []) ⟨hx, hb, hml, hown, hts⟩ (c_L_wear l dC dI cA cL h0 q1 q2 q3 q4 q5 q6 qo H.size st pl tk wd er nx md ou (xs (v4 + (1 : Int32)).toNatClampNeg) r772 ou772 hc772 hfl) (tg_S bq_2_177 bq_2_178 bq_1_0 bq_2_179) rfl rfl rfl (by decide +kernel) ⟨Nat.le_of_ble_eq_true rfl, Nat.le_of_ble_eq_true rfl⟩ ⟨tx_blH, tx_preH hPc hDc hK hNw (tx_E_up hE hS)⟩ rfl rfl hl.1 rfl (lv_room (Nat.le_of_ble_eq_true rfl)) d_L_law_772 ⟨hkc, hks⟩) hS (fun q _ h => hFc q h) hFc (fun zz _u t H locs ht hvm hw hB hz1 hk1 hS => ?_)
  subst hw
  obtain ⟨hP1, hD1⟩ := hB
  rw [ht] at hP1
  obtain ⟨hP2, hD2⟩ := va_join (wr := [(g0, .inr (2, [.int mth, .ref g1, .ref g2, .ref g3, .ref g4, .ref g5, .ref g6, .ref g7, .int mnx, .int mmd, .int mwr])), (g1, .inl (cA, 31, .inl mrm)), (g2, .inl (cA, 80, .inl mfl)), (g3, .inl (cA, 16, .inl mus)), (g4, .inl (cA, 16, .inl mlg)), (g5, .inl (cA, 16, .inl mse)), (g6, .inl (cA, 4, .inl mwe)), (g7, .inl (cA, 8, .inl mwh))]) (w1 := (wH cA cL h0 q1 q2 q3 q4 q5 q6 qo st pl tk wd er nx md ou772)) hP hD [0, 1, 2, 3, 4, 5, 6, 15] [7, 8, 9, 10, 11, 12, 13, 14] rfl rfl (by decide) (by decide) hk1 hFc hP1 hD1
  have hP := hP2.sub (ws' := (wW cA cL h0 q1 q2 q3 q4 q5 q6 g0 g1 g2 g3 g4 g5 g6 g7 qo st pl tk wd er mrm mfl mus mlg mse mwe mwh nx md mth mnx mmd mwr ou772)) [8, 9, 10, 11, 12, 13, 14, 0, 1, 2, 3, 4, 5, 6, 7, 15] rfl
  have hD := hD2.sub (ws' := (wW cA cL h0 q1 q2 q3 q4 q5 q6 g0 g1 g2 g3 g4 g5 g6 g7 qo st pl tk wd er mrm mfl mus mlg mse mwe mwh nx md mth mnx mmd mwr ou772)) [8, 9, 10, 11, 12, 13, 14, 0, 1, 2, 3, 4, 5, 6, 7, 15] (by decide) rfl
  refine lv_istore hx hb d_L_law_775 hl (by decide) rfl (fun ls hl => ?_)
  have hl : lv_has ls 8 [(5, .int r772), (0, .ref b), (1, .ref h0), (2, .ref g0), (3, .ref qo), (4, .int v4)] := hl
  refine lv_aload_n hx hb d_L_law_777 rfl (lv_at hl 3 rfl) ?_
  refine lv_aload_n hx hb d_L_law_778 rfl (lv_at hl 1 rfl) ?_
  refine lv_iload hx hb d_L_law_779 (lv_at hl 5 rfl) ?_
  refine lv_iconst (v := (1 : Int32)) hx hb d_L_law_781 (by decide) ?_
  refine lv_iadd hx hb d_L_law_782 ?_
  obtain ⟨hi783, hF⟩ := tx_g hF
  refine va_sld hx hb hX hbl (Nat.not_le.mpr hbl) hS hi783 d_L_law_783 ?_
  obtain ⟨⟨r784, mth784⟩, hc784, hF⟩ := tx_b hF
  try dsimp only at hF
  have hPc := hP.sub (ws' := (wR cA g0 g1 g2 g3 g4 g5 g6 g7 mrm mfl mus mlg mse mwe mwh mth mnx mmd mwr)) [7, 8, 9, 10, 11, 12, 13, 14] rfl
  have hDc := hD.sub (ws' := (wR cA g0 g1 g2 g3 g4 g5 g6 g7 mrm mfl mus mlg mse mwe mwh mth mnx mmd mwr)) [7, 8, 9, 10, 11, 12, 13, 14] (by decide) rfl
  have hFc := va_free (wc := (wR cA g0 g1 g2 g3 g4 g5 g6 g7 mrm mfl mus mlg mse mwe mwh mth mnx mmd mwr)) hD hS hA [7, 8, 9, 10, 11, 12, 13, 14] rfl
  refine va_calli (va_runV (As := [.int (xs (v4 + (1 : Int32)).toNatClampNeg)]) (rest := []) ⟨hx, hb, hml, hown, hts⟩ (c_R_wear l dC dI cA g0 g1 g2 g3 g4 g5 g6 g7 H.size mrm mfl mus mlg mse mwe mwh mth mnx mmd mwr (xs (v4 + (1 : Int32)).toNatClampNeg) r784 mth784 hc784) (cwV 1 hts (tg_V bq_3_107 bq_3_108 bq_3_109 bq_1_4 bq_3_110) rfl rfl rfl (by decide +kernel) ⟨Nat.le_of_ble_eq_true rfl, Nat.le_of_ble_eq_true rfl⟩) ⟨tx_blW, (va_recv (ci := 2) (q0 := 7) hK hP rfl rfl), tx_preW hPc hDc hK1 hNw⟩ rfl rfl hl.1 rfl (lv_room (Nat.le_of_ble_eq_true rfl)) d_L_law_784 ⟨hkc, hks⟩) hS (fun q _ h => hFc q h) hFc (fun zz _u t H locs ht hvm hw hB hz1 hk1 hS => ?_)
  subst hw
  obtain ⟨hP1, hD1⟩ := hB
  rw [ht] at hP1
  obtain ⟨hP2, hD2⟩ := va_join (wr := [(h0, .inr (1, [.ref q1, .ref q2, .ref q3, .ref q4, .int nx, .int md])), (q1, .inr (0, [.ref q5, .ref q6])), (q2, .inl (cA, 16, .inl st)), (q3, .inl (cA, 8, .inl pl)), (q4, .inl (cA, 8, .inl tk)), (q5, .inl (cA, 80, .inl wd)), (q6, .inl (cA, 4, .inl er)), (qo, .inl (cL, 1, .inr (.inl ou772)))]) (w1 := (wR cA g0 g1 g2 g3 g4 g5 g6 g7 mrm mfl mus mlg mse mwe mwh mth784 mnx mmd mwr)) hP hD [7, 8, 9, 10, 11, 12, 13, 14] [0, 1, 2, 3, 4, 5, 6, 15] rfl rfl (by decide) (by decide) hk1 hFc hP1 hD1
  have hP := hP2.sub (ws' := (wW cA cL h0 q1 q2 q3 q4 q5 q6 g0 g1 g2 g3 g4 g5 g6 g7 qo st pl tk wd er mrm mfl mus mlg mse mwe mwh nx md mth784 mnx mmd mwr ou772)) [0, 1, 2, 3, 4, 5, 6, 8, 9, 10, 11, 12, 13, 14, 15, 7] rfl
  have hD := hD2.sub (ws' := (wW cA cL h0 q1 q2 q3 q4 q5 q6 g0 g1 g2 g3 g4 g5 g6 g7 qo st pl tk wd er mrm mfl mus mlg mse mwe mwh nx md mth784 mnx mmd mwr ou772)) [0, 1, 2, 3, 4, 5, 6, 8, 9, 10, 11, 12, 13, 14, 15, 7] (by decide) rfl
  refine lv_istore hx hb d_L_law_787 hl (by decide) rfl (fun ls hl => ?_)
  have hl : lv_has ls 8 [(6, .int r784), (5, .int r772), (0, .ref b), (1, .ref h0), (2, .ref g0), (3, .ref qo), (4, .int v4)] := hl
  refine lv_aload_n hx hb d_L_law_789 rfl (lv_at hl 4 rfl) ?_
  obtain ⟨r790, hc790, hF⟩ := tx_b hF
  refine vp_callSi (W.runV (As := []) (rest := []) ⟨hx, hb, hml, hown, hts⟩ (c_R_thrown l dC dI cA g0 g1 g2 g3 g4 g5 g6 g7 mrm mfl mus mlg mse mwe mwh mth784 mnx mmd mwr r790 hc790) (cwV 0 hts (tg_V bq_2_226 bq_2_227 bq_2_228 bq_1_4 bq_2_229) rfl rfl rfl (by decide +kernel) ⟨Nat.le_of_ble_eq_true rfl, Nat.le_of_ble_eq_true rfl⟩) ⟨tx_blR, (va_recv (ci := 2) (q0 := 7) hK hP rfl rfl), tx_preR (hP.sub (ws' := (wR cA g0 g1 g2 g3 g4 g5 g6 g7 mrm mfl mus mlg mse mwe mwh mth784 mnx mmd mwr)) [7, 8, 9, 10, 11, 12, 13, 14] rfl) hK1⟩ rfl rfl hl.1 rfl (lv_room (Nat.le_of_ble_eq_true rfl)) d_L_law_790 ⟨hkc, hks⟩) (fun zz hz => ?_)
  subst hz
  refine lv_iload hx hb d_L_law_793 (lv_at hl 1 rfl) ?_
  refine lv_icmp_eq hx hb d_L_law_795 (tgt := 800) (by decide) (fun h795 => ?_) (fun h795 => ?_)
  · have hF := tx_t h795 hF
    refine lv_iload hx hb d_L_law_800 (lv_at hl 1 rfl) ?_
    refine lv_if_ne hx hb d_L_law_802 (tgt := 817) (by decide) (fun h802 => ?_) (fun h802 => ?_)
    · have hF := tx_f h802 hF
      exact J817 _ _ _ st pl tk wd er mrm mfl mus mlg mse mwe mwh nx md mth784 mnx mmd mwr ou772 hP hD hS (lv_sub hl [2, 3, 4, 5, 6] rfl) hF
    · have hF := tx_t h802 hF
      refine lv_aload_n hx hb d_L_law_805 rfl (lv_at hl 5 rfl) ?_
      refine lv_iconst (v := (0 : Int32)) hx hb d_L_law_806 (by decide) ?_
      obtain ⟨hi807, hF⟩ := tx_g hF
      refine va_lald hx hb hK hP 15 1 rfl rfl hi807 d_L_law_807 ?_
      refine lv_iload hx hb d_L_law_808 (lv_at hl 0 rfl) ?_
      refine lv_i2l hx hb d_L_law_810 rfl ?_
      refine W.lcmp hx hb d_L_law_811 ?_
      refine lv_if_eq hx hb d_L_law_812 (tgt := 817) (by decide) (fun h812 => ?_) (fun h812 => ?_)
      · have hF := tx_t h812 hF
        exact J817 _ _ _ st pl tk wd er mrm mfl mus mlg mse mwe mwh nx md mth784 mnx mmd mwr ou772 hP hD hS (lv_sub hl [2, 3, 4, 5, 6] rfl) hF
      · have hF := tx_f h812 hF
        refine lv_iconst (v := (0 : Int32)) hx hb d_L_law_815 (by decide) ?_
        cases hF
  · have hF := tx_f h795 hF
    refine lv_iconst (v := (0 : Int32)) hx hb d_L_law_798 (by decide) ?_
    cases hF
def f_W820 (L : Nat) (xs : Nat → Int32) (st : Nat → Int32) (pl : Nat → Int32) (tk : Nat → Int32) (wd : Nat → Int32) (er : Nat → Int32) (mrm : Nat → Int32) (mfl : Nat → Int32) (mus : Nat → Int32) (mlg : Nat → Int32) (mse : Nat → Int32) (mwe : Nat → Int32) (mwh : Nat → Int32) (nx : Int32) (md : Int32) (mth : Int32) (mnx : Int32) (mmd : Int32) (mwr : Int32) (ou : Nat → Int64) (v4 : Int32) : Option ((Nat → Int32) × (Nat → Int32) × (Nat → Int32) × (Nat → Int32) × (Nat → Int32) × (Nat → Int32) × (Nat → Int32) × (Nat → Int32) × (Nat → Int32) × (Nat → Int32) × (Nat → Int32) × (Nat → Int32) × Int32 × Int32 × Int32 × Int32 × Int32 × Int32 × (Nat → Int64)) := (f_F_serial nx).bind fun r821 => (f_R_serial mth mnx).bind fun (r825, mth825) => if r821 = r825 then (some (st, pl, tk, wd, er, mrm, mfl, mus, mlg, mse, mwe, mwh, nx, md, mth825, mnx, mmd, mwr, ou)) else (none)
set_option maxHeartbeats 4000000 in
set_option maxRecDepth 100000 in
theorem cs_820 {p : Program} {l : Launch} {e : Env} {s : State} {m : MethodId} {args : Array Value} {below : List Frame} {meth : Method} {c : Code} {Q : State → Prop} {c1 : Cond} (hx : p.tables.exec = Jvm.exec) (hb : c.code = b_L_law) (hml : c.maxLocals = 8) (hown : s.vm.findClass "FlashStoreLaw" = some m.cls) (hts : ∀ w ∈ c1 :: bw, w.before args s = true) (hfl : l.flags = pinnedFlags ++ [noTraceFlag]) {dC : Nat → ClassId} {dI : Nat → Nat → Nat} {cA cL : ClassId} (hK : va_K (dC, dI) vwCl [(cA, .int), (cL, .long)] s) (hNw : va_Nw tx_nest s) (hE : tx_E s) {b L : Nat} {xs : Nat → Int32} (hX : va_X b L xs s s.heap) (hbl : b < s.heap.size) (h0 q1 q2 q3 q4 q5 q6 g0 g1 g2 g3 g4 g5 g6 g7 qo : Nat) (st pl tk wd er mrm mfl mus mlg mse mwe mwh : Nat → Int32) (nx md mth mnx mmd mwr : Int32) (ou : Nat → Int64) (v4 : Int32) (kc ks : Nat) (hkc : kc + 1 ≤ 601024) (hks : ks + 6 ≤ 7293034) (st' : Nat → Int32) (pl' : Nat → Int32) (tk' : Nat → Int32) (wd' : Nat → Int32) (er' : Nat → Int32) (mrm' : Nat → Int32) (mfl' : Nat → Int32) (mus' : Nat → Int32) (mlg' : Nat → Int32) (mse' : Nat → Int32) (mwe' : Nat → Int32) (mwh' : Nat → Int32) (nx' : Int32) (md' : Int32) (mth' : Int32) (mnx' : Int32) (mmd' : Int32) (mwr' : Int32) (ou' : Nat → Int64) (hF : f_W820 L xs st pl tk wd er mrm mfl mus mlg mse mwe mwh nx md mth mnx mmd mwr ou v4 = some (st', pl', tk', wd', er', mrm', mfl', mus', mlg', mse', mwe', mwh', nx', md', mth', mnx', mmd', mwr', ou')) (hnext : ∀ (H : Heap) (locs : List Loc) (ls : Array Slot), va_P (dC, dI) vwCl (wW cA cL h0 q1 q2 q3 q4 q5 q6 g0 g1 g2 g3 g4 g5 g6 g7 qo (st') (pl') (tk') (wd') (er') (mrm') (mfl') (mus') (mlg') (mse') (mwe') (mwh') (nx') (md') (mth') (mnx') (mmd') (mwr') (ou')) H → va_D (fun q => s.heap.size ≤ q) (wW cA cL h0 q1 q2 q3 q4 q5 q6 g0 g1 g2 g3 g4 g5 g6 g7 qo (st') (pl') (tk') (wd') (er') (mrm') (mfl') (mus') (mlg') (mse') (mwe') (mwh') (nx') (md') (mth') (mnx') (mmd') (mwr') (ou')) → va_S (fun q => s.heap.size ≤ q) s.heap H locs → lv_has ls 8 [(0, .ref b), (1, .ref h0), (2, .ref g0), (3, .ref qo), (4, .int v4)] → W p l e room_1 s m args below meth c H locs (kc + 1) (ks + 6) Q (F0 m 833 ls [])) (H : Heap) (locs : List Loc) (ls : Array Slot) (hP : va_P (dC, dI) vwCl (wW cA cL h0 q1 q2 q3 q4 q5 q6 g0 g1 g2 g3 g4 g5 g6 g7 qo st pl tk wd er mrm mfl mus mlg mse mwe mwh nx md mth mnx mmd mwr ou) H) (hD : va_D (fun q => s.heap.size ≤ q) (wW cA cL h0 q1 q2 q3 q4 q5 q6 g0 g1 g2 g3 g4 g5 g6 g7 qo st pl tk wd er mrm mfl mus mlg mse mwe mwh nx md mth mnx mmd mwr ou)) (hS : va_S (fun q => s.heap.size ≤ q) s.heap H locs) (hl : lv_has ls 8 [(0, .ref b), (1, .ref h0), (2, .ref g0), (3, .ref qo), (4, .int v4)]) : W p l e room_1 s m args below meth c H locs kc ks Q (F0 m 820 ls []) := by
  have hK1 : va_K (dC, dI) vwCl [(cA, .int)] s := hK.sub [0] rfl
  have hA : ∀ q : Nat, s.heap.size ≤ q → s.heap.size ≤ q := fun _ h => h
  have hF : ((f_F_serial nx).bind fun r821 => (f_R_serial mth mnx).bind fun (r825, mth825) => if r821 = r825 then (some (st, pl, tk, wd, er, mrm, mfl, mus, mlg, mse, mwe, mwh, nx, md, mth825, mnx, mmd, mwr, ou)) else (none)) = some (st', pl', tk', wd', er', mrm', mfl', mus', mlg', mse', mwe', mwh', nx', md', mth', mnx', mmd', mwr', ou') := hF
  refine lv_aload_n hx hb d_L_law_820 rfl (lv_at hl 1 rfl) ?_
  obtain ⟨r821, hc821, hF⟩ := tx_b hF
  refine vp_callSi (W.runV (As := []) (rest := []) ⟨hx, hb, hml, hown, hts⟩ (c_F_serial l dC dI cA h0 q1 q2 q3 q4 q5 q6 st pl tk wd er nx md r821 hc821) (cwV 0 hts (tg_V bq_1_132 bq_1_133 bq_1_134 bq_1_1 bq_1_135) rfl rfl rfl (by decide +kernel) ⟨Nat.le_of_ble_eq_true rfl, Nat.le_of_ble_eq_true rfl⟩) ⟨tx_blR, (va_recv (ci := 1) (q0 := 0) hK hP rfl rfl), tx_preR (hP.sub (ws' := (wF cA h0 q1 q2 q3 q4 q5 q6 st pl tk wd er nx md)) [0, 1, 2, 3, 4, 5, 6] rfl) hK1⟩ rfl rfl hl.1 rfl (lv_room (Nat.le_of_ble_eq_true rfl)) d_L_law_821 ⟨Nat.le_of_succ_le hkc, Nat.le_trans (Nat.le_add_right _ 6) hks⟩) (fun zz hz => ?_)
  subst hz
  refine lv_aload_n hx hb d_L_law_824 rfl (lv_at hl 2 rfl) ?_
  obtain ⟨⟨r825, mth825⟩, hc825, hF⟩ := tx_b hF
  try dsimp only at hF
  have hPc := hP.sub (ws' := (wR cA g0 g1 g2 g3 g4 g5 g6 g7 mrm mfl mus mlg mse mwe mwh mth mnx mmd mwr)) [7, 8, 9, 10, 11, 12, 13, 14] rfl
  have hDc := hD.sub (ws' := (wR cA g0 g1 g2 g3 g4 g5 g6 g7 mrm mfl mus mlg mse mwe mwh mth mnx mmd mwr)) [7, 8, 9, 10, 11, 12, 13, 14] (by decide) rfl
  have hFc := va_free (wc := (wR cA g0 g1 g2 g3 g4 g5 g6 g7 mrm mfl mus mlg mse mwe mwh mth mnx mmd mwr)) hD hS hA [7, 8, 9, 10, 11, 12, 13, 14] rfl
  refine va_calli (va_runV (As := []) (rest := [.int r821]) ⟨hx, hb, hml, hown, hts⟩ (c_R_serial l dC dI cA g0 g1 g2 g3 g4 g5 g6 g7 H.size mrm mfl mus mlg mse mwe mwh mth mnx mmd mwr r825 mth825 hc825) (cwV 0 hts (tg_V bq_3_111 bq_3_112 bq_3_113 bq_1_4 bq_3_114) rfl rfl rfl (by decide +kernel) ⟨Nat.le_of_ble_eq_true rfl, Nat.le_of_ble_eq_true rfl⟩) ⟨tx_blW, (va_recv (ci := 2) (q0 := 7) hK hP rfl rfl), tx_preW hPc hDc hK1 hNw⟩ rfl rfl hl.1 rfl (lv_room (Nat.le_of_ble_eq_true rfl)) d_L_law_825 ⟨Nat.le_of_succ_le hkc, Nat.le_trans (Nat.le_add_right _ 6) hks⟩) hS (fun q _ h => hFc q h) hFc (fun zz _u t H locs ht hvm hw hB hz1 hk1 hS => ?_)
  subst hw
  obtain ⟨hP1, hD1⟩ := hB
  rw [ht] at hP1
  obtain ⟨hP2, hD2⟩ := va_join (wr := [(h0, .inr (1, [.ref q1, .ref q2, .ref q3, .ref q4, .int nx, .int md])), (q1, .inr (0, [.ref q5, .ref q6])), (q2, .inl (cA, 16, .inl st)), (q3, .inl (cA, 8, .inl pl)), (q4, .inl (cA, 8, .inl tk)), (q5, .inl (cA, 80, .inl wd)), (q6, .inl (cA, 4, .inl er)), (qo, .inl (cL, 1, .inr (.inl ou)))]) (w1 := (wR cA g0 g1 g2 g3 g4 g5 g6 g7 mrm mfl mus mlg mse mwe mwh mth825 mnx mmd mwr)) hP hD [7, 8, 9, 10, 11, 12, 13, 14] [0, 1, 2, 3, 4, 5, 6, 15] rfl rfl (by decide) (by decide) hk1 hFc hP1 hD1
  have hP := hP2.sub (ws' := (wW cA cL h0 q1 q2 q3 q4 q5 q6 g0 g1 g2 g3 g4 g5 g6 g7 qo st pl tk wd er mrm mfl mus mlg mse mwe mwh nx md mth825 mnx mmd mwr ou)) [0, 1, 2, 3, 4, 5, 6, 8, 9, 10, 11, 12, 13, 14, 15, 7] rfl
  have hD := hD2.sub (ws' := (wW cA cL h0 q1 q2 q3 q4 q5 q6 g0 g1 g2 g3 g4 g5 g6 g7 qo st pl tk wd er mrm mfl mus mlg mse mwe mwh nx md mth825 mnx mmd mwr ou)) [0, 1, 2, 3, 4, 5, 6, 8, 9, 10, 11, 12, 13, 14, 15, 7] (by decide) rfl
  refine lv_icmp_eq hx hb d_L_law_828 (tgt := 833) (by decide) (fun h828 => ?_) (fun h828 => ?_)
  · have hF := tx_t h828 hF
    cases hF
    refine W.widen (k := kc + 1) (n := ks + 6) (Nat.le_add_right _ _) (Nat.le_add_right _ _) ?_
    exact hnext _ _ _ hP hD hS (lv_sub hl [0, 1, 2, 3, 4] rfl)
  · have hF := tx_f h828 hF
    refine lv_iconst (v := (0 : Int32)) hx hb d_L_law_831 (by decide) ?_
    cases hF
