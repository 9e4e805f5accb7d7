theorem bq_1_14 : (Jvm.Cond.classLink "FlashStoreLaw" (8 : Nat) "FlashStore") ∈ bw := bw_in (List.mem_append_right _ (List.mem_append_left _ (List.mem_of_getElem? (i := 14) rfl))) rfl
theorem bq_1_15 : (Jvm.Cond.instantiable "FlashStore" (6 : Nat)) ∈ bw := bw_in (List.mem_append_right _ (List.mem_append_left _ (List.mem_of_getElem? (i := 15) rfl))) rfl
theorem bq_2_184 : (Jvm.Cond.classLink "FlashStoreLaw" (57 : Nat) "FlashStoreModel") ∈ bw := bw_in (List.mem_append_right _ (List.mem_append_right _ (List.mem_append_left _ (List.mem_of_getElem? (i := 184) rfl)))) rfl
theorem bq_2_185 : (Jvm.Cond.instantiable "FlashStoreModel" (11 : Nat)) ∈ bw := bw_in (List.mem_append_right _ (List.mem_append_right _ (List.mem_append_left _ (List.mem_of_getElem? (i := 185) rfl)))) rfl
theorem bq_1_18 : (Jvm.Cond.code ({ cls := "FlashStore", name := "<init>", desc := "()V" } : Jvm.MethodName) prog_1_method_1_code (1 : Nat) (Option.none : Option Jvm.ClassFile.FieldType)) ∈ bw := bw_in (List.mem_append_right _ (List.mem_append_left _ (List.mem_of_getElem? (i := 18) rfl))) rfl
theorem bq_1_16 : (Jvm.Cond.methodLink "FlashStoreLaw" (56 : Nat) ({ cls := "FlashStore", name := "<init>", desc := "()V" } : Jvm.MethodName)) ∈ bw := bw_in (List.mem_append_right _ (List.mem_append_left _ (List.mem_of_getElem? (i := 16) rfl))) rfl
theorem bq_1_17 : (Jvm.Cond.instanceMethod ({ cls := "FlashStore", name := "<init>", desc := "()V" } : Jvm.MethodName)) ∈ bw := bw_in (List.mem_append_right _ (List.mem_append_left _ (List.mem_of_getElem? (i := 17) rfl))) rfl
theorem bq_2_188 : (Jvm.Cond.code ({ cls := "FlashStoreModel", name := "<init>", desc := "()V" } : Jvm.MethodName) prog_5_method_1_code (3 : Nat) (Option.none : Option Jvm.ClassFile.FieldType)) ∈ bw := bw_in (List.mem_append_right _ (List.mem_append_right _ (List.mem_append_left _ (List.mem_of_getElem? (i := 188) rfl)))) rfl
theorem bq_2_186 : (Jvm.Cond.methodLink "FlashStoreLaw" (59 : Nat) ({ cls := "FlashStoreModel", name := "<init>", desc := "()V" } : Jvm.MethodName)) ∈ bw := bw_in (List.mem_append_right _ (List.mem_append_right _ (List.mem_append_left _ (List.mem_of_getElem? (i := 186) rfl)))) rfl
theorem bq_2_187 : (Jvm.Cond.instanceMethod ({ cls := "FlashStoreModel", name := "<init>", desc := "()V" } : Jvm.MethodName)) ∈ bw := bw_in (List.mem_append_right _ (List.mem_append_right _ (List.mem_append_left _ (List.mem_of_getElem? (i := 187) rfl)))) rfl
theorem bq_3_116 : (Jvm.Cond.arrayClass Jvm.ClassFile.FieldType.long) ∈ bw := bw_in (List.mem_append_right _ (List.mem_append_right _ (List.mem_append_right _ (List.mem_of_getElem? (i := 116) rfl)))) rfl
/-! The law's entry, its loop, and the claim. -/
set_option maxRecDepth 100000 in
theorem ke_str : ∀ q ∈ tx_strs, Cond.stringRef "FlashStore" q.1 q.2 ∈ lw_tbl := by decide +kernel
set_option maxRecDepth 100000 in
theorem ke_exa : ∀ q ∈ tx_strs, Cond.exactly (.string "FlashStore" q.1) "java/lang/String" ∈ flatC (Jvm.Cond.and given_1 narrow_1) := by decide +kernel
set_option maxRecDepth 100000 in
theorem ke_cas : ∀ q ∈ tx_pairs, Cond.not (.castable q.1 q.2) ∈ flatC (Jvm.Cond.and given_1 narrow_1) := by decide +kernel
set_option maxRecDepth 100000 in
theorem ke_sta : Cond.isRef (.static Bundle.tN "UNASSIGNED_STACK" Bundle.steD) ∈ flatC (Jvm.Cond.and given_1 narrow_1) ∧ Cond.isRef (.static Bundle.tN "SUPPRESSED_SENTINEL" Bundle.listD) ∈ flatC (Jvm.Cond.and given_1 narrow_1) := by decide +kernel
set_option maxRecDepth 100000 in
theorem ke_lay : Cond.laysStatic Bundle.tN "UNASSIGNED_STACK" Bundle.steD ∈ lw_tbl ∧ Cond.laysStatic Bundle.tN "SUPPRESSED_SENTINEL" Bundle.listD ∈ lw_tbl ∧ Cond.initialized Bundle.tN ∈ lw_tbl ∧ tx_nest ∈ lw_tbl ∧ Cond.initialized "FlashStoreLaw" ∈ lw_tbl := by decide +kernel
theorem ke_E {args : Array Value} {s : State} (hts : ∀ w ∈ lw_tbl, w.before args s = true) (hg : (Jvm.Cond.and given_1 narrow_1).before args s = true) : tx_E s := by
  have hf := flat_of_before _ hg
  refine ⟨fun q hq => ?_, fun w hw => va_Nw.of (tx_face_ok w hw).1 (hts w (tx_face_tb w hw)), vx_Zqof (hts _ ke_lay.1) (hts _ ke_lay.2.2.1) (hf _ ke_sta.1) (fun _ _ h => h), vx_Zqof (hts _ ke_lay.2.1) (hts _ ke_lay.2.2.1) (hf _ ke_sta.2) (fun _ _ h => h), fun q hq => va_Nc.of (hf _ (ke_cas q hq))⟩
  obtain ⟨a, c, cA, kA, q1, -⟩ := Cond.exactly_spec (args := args) (first := s) (o := none) (s := s) (idx := []) (t := .string "FlashStore" q.1) (cls := "java/lang/String") (hf _ (ke_exa q hq))
  exact ⟨a, vk_R.of (A := args) (hts _ (ke_str q hq)) q1⟩
theorem ke_in {i k L : Nat} (h : i + k < L) (hL : L ≤ 2560) : ¬ ((nI i + nI k) < 0 ∨ L ≤ (nI i + nI k).toNatClampNeg) := by
  rw [nI_add]
  exact nI_in h (by omega)
theorem ke_lt {L it : Nat} (hL : L ≤ 2560) (h : ¬ (Int32.ofNat L - (5 : Int32)) < nI (5 * it)) (hi : it ≤ 513 := by omega) : 5 * it + 5 ≤ L := by
  refine Classical.byContradiction (fun e => h ?_)
  by_cases h5 : 5 ≤ L
  · have e1 : Int32.ofNat L - (5 : Int32) = nI (L - 5) := pk_sub (a := L) (b := 5) h5
    rw [e1]
    exact nI_lt (by omega) (by omega)
  · have e1 : nI L - nI 5 < 0 := pk_sneg (by decide) (by omega)
    have e2 : Int32.ofNat L - (5 : Int32) < 0 := e1
    have e3 : 0 ≤ nI (5 * it) := nI_pos' (by omega)
    exact Int32.lt_of_lt_of_le e2 e3
theorem ke_i0 {rm : Nat → Int32} (hr : kR rm) : kRel (kf_fill 16 (fun _ => 0) (0 : Int32)) (kf_fill 8 kz_f (-1 : Int32)) (kf_fill 80 (fun _ => 0) (2147483647 : Int32)) (fun _ => 0) rm (kf_fill 80 (fun _ => 0) (2147483647 : Int32)) (fun _ => 0) (fun _ => 0) (fun _ => 0) (fun _ => 0) (0 : Int32) (0 : Int32) (0 : Int32) (0 : Int32) := by
  refine ⟨hr, rfl, ?_, rfl, ?_, rfl, rfl, ⟨fun k hk => Or.inl (if_pos hk), fun p hp h => ?_⟩, fun j hj => ⟨2147483647, by decide, if_pos hj⟩, 0, by decide, rfl⟩
  · funext q
    unfold kf_fill
    split <;> rfl
  · funext q
    unfold kwh kf_fill kz_f
    split
    · decide
    · decide
  · have e : kf_fill 16 (fun _ => 0) (0 : Int32) p = 0 := if_pos hp
    rw [e] at h
    exact absurd h (by decide)
set_option maxHeartbeats 8000000 in
set_option maxRecDepth 100000 in
theorem whole_start {p : Program} {e : Env} {s : State} {m : MethodId} {below : List Frame} {meth : Method} {c : Code} (l : Launch) (hfl : l.flags = pinnedFlags ++ [noTraceFlag]) {b L : Nat} {xs : Nat → Int32} (hL : L ≤ 2560) (C0 : lw_At p s m meth c b L xs) : W p l e room_1 s m #[Value.ref b] below meth c s.heap [] 0 0 (lw_Z below #[Value.ref b] s) (entryFrame m ([Value.ref b] : List Value).toArray 8) := by
  obtain ⟨hx, hb, hr, hml, hown, hts0, hX, hbl, hlocks, hg⟩ := C0
  have hE := ke_E hts0 hg
  have hts : ∀ w ∈ Cond.initialized "FlashStoreLaw" :: bw, w.before #[Value.ref b] s = true := fun w hw => by
    rcases List.mem_cons.mp hw with rfl | hw
    · exact hts0 _ ke_lay.2.2.2.2
    · exact hts0 _ (bw_tb hw)
  have hNw : va_Nw tx_nest s := va_Nw.of rfl (hts0 _ ke_lay.2.2.2.1)
  have hown : s.vm.findClass "FlashStoreLaw" = some m.cls := hown
  obtain ⟨dC, dI, hK⟩ : ∃ (dC : Nat → ClassId) (dI : Nat → Nat → Nat), va_K (dC, dI) vwCl [] s := by
    obtain ⟨c0, i0, k0⟩ := u_known (N := 2) (T := TM) hts inTM (hts _ (List.mem_cons_of_mem _ bq_1_23))
    obtain ⟨c1, i1, k1⟩ := u_known (N := 6) (T := TF) hts inTF (hts _ (List.mem_cons_of_mem _ bq_1_15))
    obtain ⟨c2, i2, k2⟩ := u_known (N := 11) (T := TR) hts inTR (hts _ (List.mem_cons_of_mem _ bq_2_185))
    refine ⟨fun n => match n with | 0 => c0 | 1 => c1 | _ => c2, fun n => match n with | 0 => i0 | 1 => i1 | _ => i2, fun n q h => ?_, fun k q h => by cases h⟩
    match n, h with
    | 0, h => cases h; exact k0
    | 1, h => cases h; exact k1
    | 2, h => cases h; exact k2
    | n + 3, h => cases h
  have hS : va_S (fun q => s.heap.size ≤ q) s.heap s.heap [] := va_S.rf
  have hA : ∀ q : Nat, s.heap.size ≤ q → (fun q => s.heap.size ≤ q) q := fun _ h => h
  have hP : va_P (dC, dI) vwCl [] s.heap := fun k q h => by cases h
  have hD : va_D (fun q => s.heap.size ≤ q) [] := ⟨fun i j p q h => (by cases h), fun k q h => (by cases h)⟩
  have hl := lv_entry ([.ref b]) (n := 8) (Nat.le_of_ble_eq_true rfl)
  rw [lg_entry_eq]
  generalize (lg_sl ([.ref b]) ++ List.replicate (8 - (lg_sl ([.ref b])).length) Slot.unset).toArray = ls at hl ⊢
  have hl : lv_has ls 8 [(0, .ref b)] := hl
  generalize hQe : lw_Z below #[Value.ref b] s = Q
  have fin : ∀ (kc ks : Nat) (H : Heap) (locs : List Loc) (ls : Array Slot), kc ≤ 601024 → ks ≤ 7293034 → va_S (fun q => s.heap.size ≤ q) s.heap H locs → W p l e room_1 s m #[Value.ref b] below meth c H locs kc ks Q (F0 m 839 ls []) := by
    intro kc ks H locs ls hkc hks hS
    subst hQe
    refine lv_iconst (v := (1 : Int32)) hx hb d_L_law_839 (by decide) ?_
    refine va_forget (fun q hq => hS.2.2 q hq) ?_
    refine W.widen (k := 601024) (n := 7293034) hkc hks ?_
    exact lw_ret hx hb hr hlocks d_L_law_840
  have loop : ∀ (cA cL : ClassId) (h0 q1 q2 q3 q4 q5 q6 g0 g1 g2 g3 g4 g5 g6 g7 qo : Nat), va_K (dC, dI) vwCl [(cA, .int), (cL, .long)] s → ∀ n it : Nat, it + n = 513 → ∀ (H : Heap) (locs : List Loc) (ls : Array Slot) (st : Nat → Int32) (pl : Nat → Int32) (tk : Nat → Int32) (wd : Nat → Int32) (er : Nat → Int32) (mrm : Nat → Int32) (mfl : Nat → Int32) (mus : Nat → Int32) (mlg : Nat → Int32) (mse : Nat → Int32) (mwe : Nat → Int32) (mwh : Nat → Int32) (nx : Int32) (md : Int32) (mth : Int32) (mnx : Int32) (mmd : Int32) (mwr : Int32) (ou : Nat → Int64), kRel st pl wd er mrm mfl mus mlg mwe mwh nx md mnx mmd → va_P (dC, dI) vwCl (wW cA cL h0 q1 q2 q3 q4 q5 q6 g0 g1 g2 g3 g4 g5 g6 g7 qo st pl tk wd er mrm mfl mus mlg mse mwe mwh nx md mth mnx mmd mwr ou) H → va_D (fun q => s.heap.size ≤ q) (wW cA cL h0 q1 q2 q3 q4 q5 q6 g0 g1 g2 g3 g4 g5 g6 g7 qo st pl tk wd er mrm mfl mus mlg mse mwe mwh nx md mth mnx mmd mwr ou) → va_S (fun q => s.heap.size ≤ q) s.heap H locs → lv_has ls 8 [(0, .ref b), (1, .ref h0), (2, .ref g0), (3, .ref qo), (4, .int (nI (5 * it)))] → W p l e room_1 s m #[Value.ref b] below meth c H locs (16 + it) (307 + 6 * it) Q (F0 m 23 ls []) := by
    intro cA cL h0 q1 q2 q3 q4 q5 q6 g0 g1 g2 g3 g4 g5 g6 g7 qo hK n
    induction n with
    | zero =>
      intro it hit H locs ls st pl tk wd er mrm mfl mus mlg mse mwe mwh nx md mth mnx mmd mwr ou hR hP hD hS hl
      have : it = 513 := by omega
      subst this
      refine lv_iload hx hb d_L_law_23 (lv_at hl 4 rfl) ?_
      refine lv_aload_n hx hb d_L_law_25 rfl (lv_at hl 0 rfl) ?_
      refine va_slen hx hb hX hbl (Nat.not_le.mpr hbl) hS d_L_law_26 ?_
      refine lv_iconst (v := (5 : Int32)) hx hb d_L_law_27 (by decide) ?_
      refine lv_isub hx hb d_L_law_28 ?_
      refine lv_icmp_gt hx hb d_L_law_29 (tgt := 839) (by decide) (fun _ => ?_) (fun h => ?_)
      · exact fin _ _ _ _ _ (by omega) (by omega) hS
      · exact absurd (ke_lt hL h) (by omega)
    | succ n ih =>
      intro it hit H locs ls st pl tk wd er mrm mfl mus mlg mse mwe mwh nx md mth mnx mmd mwr ou hR hP hD hS hl
      refine lv_iload hx hb d_L_law_23 (lv_at hl 4 rfl) ?_
      refine lv_aload_n hx hb d_L_law_25 rfl (lv_at hl 0 rfl) ?_
      refine va_slen hx hb hX hbl (Nat.not_le.mpr hbl) hS d_L_law_26 ?_
      refine lv_iconst (v := (5 : Int32)) hx hb d_L_law_27 (by decide) ?_
      refine lv_isub hx hb d_L_law_28 ?_
      refine lv_icmp_gt hx hb d_L_law_29 (tgt := 839) (by decide) (fun _ => ?_) (fun h => ?_)
      · exact fin _ _ _ _ _ (by omega) (by omega) hS
      have hlt : 5 * it + 5 ≤ L := ke_lt hL h
      have i0 : ¬ (nI (5 * it) < 0 ∨ L ≤ (nI (5 * it)).toNatClampNeg) := nI_in (by omega) (by omega)
      have i1 : ¬ ((nI (5 * it) + (1 : Int32)) < 0 ∨ L ≤ (nI (5 * it) + (1 : Int32)).toNatClampNeg) := ke_in (k := 1) (by omega) hL
      have i2 : ¬ ((nI (5 * it) + (2 : Int32)) < 0 ∨ L ≤ (nI (5 * it) + (2 : Int32)).toNatClampNeg) := ke_in (k := 2) (by omega) hL
      have i3 : ¬ ((nI (5 * it) + (3 : Int32)) < 0 ∨ L ≤ (nI (5 * it) + (3 : Int32)).toNatClampNeg) := ke_in (k := 3) (by omega) hL
      have i4 : ¬ ((nI (5 * it) + (4 : Int32)) < 0 ∨ L ≤ (nI (5 * it) + (4 : Int32)).toNatClampNeg) := ke_in (k := 4) (by omega) hL
      have next : ∀ (H : Heap) (locs : List Loc) (ls : Array Slot) (st : Nat → Int32) (pl : Nat → Int32) (tk : Nat → Int32) (wd : Nat → Int32) (er : Nat → Int32) (mrm : Nat → Int32) (mfl : Nat → Int32) (mus : Nat → Int32) (mlg : Nat → Int32) (mse : Nat → Int32) (mwe : Nat → Int32) (mwh : Nat → Int32) (nx : Int32) (md : Int32) (mth : Int32) (mnx : Int32) (mmd : Int32) (mwr : Int32) (ou : Nat → Int64), kRel st pl wd er mrm mfl mus mlg mwe mwh nx md mnx mmd → va_P (dC, dI) vwCl (wW cA cL h0 q1 q2 q3 q4 q5 q6 g0 g1 g2 g3 g4 g5 g6 g7 qo st pl tk wd er mrm mfl mus mlg mse mwe mwh nx md mth mnx mmd mwr ou) H → va_D (fun q => s.heap.size ≤ q) (wW cA cL h0 q1 q2 q3 q4 q5 q6 g0 g1 g2 g3 g4 g5 g6 g7 qo st pl tk wd er mrm mfl mus mlg mse mwe mwh nx md mth mnx mmd mwr ou) → va_S (fun q => s.heap.size ≤ q) s.heap H locs → lv_has ls 8 [(0, .ref b), (1, .ref h0), (2, .ref g0), (3, .ref qo), (4, .int (nI (5 * it)))] → W p l e room_1 s m #[Value.ref b] below meth c H locs (16 + it + 1) (307 + 6 * it + 6) Q (F0 m 833 ls []) := by
        intro H locs ls st pl tk wd er mrm mfl mus mlg mse mwe mwh nx md mth mnx mmd mwr ou hR hP hD hS hl
        refine lv_iinc (k := 4) (v := (nI (5 * it) + (5 : Int32))) hx hb d_L_law_833 hl rfl rfl (by decide) rfl (fun ls hl => ?_)
        have hl : lv_has ls 8 [(4, .int (nI (5 * (it + 1)))), (0, .ref b), (1, .ref h0), (2, .ref g0), (3, .ref qo)] := by
          rw [show nI (5 * (it + 1)) = nI (5 * it) + (5 : Int32) from (nI_add (5 * it) 5).symm]
          exact hl
        refine lv_goto hx hb d_L_law_836 (tgt := 23) (by decide) ?_
        have hih := ih (it + 1) (by omega) H locs ls st pl tk wd er mrm mfl mus mlg mse mwe mwh nx md mth mnx mmd mwr ou hR hP hD hS (lv_sub hl [1, 2, 3, 4, 0] rfl)
        rw [show 16 + (it + 1) = 16 + it + 1 by omega, show 307 + 6 * (it + 1) = 307 + 6 * it + 6 by omega] at hih
        exact hih
      refine lv_aload_n hx hb d_L_law_32 rfl (lv_at hl 0 rfl) ?_
      refine lv_iload hx hb d_L_law_33 (lv_at hl 4 rfl) ?_
      refine va_sld hx hb hX hbl (Nat.not_le.mpr hbl) hS i0 d_L_law_35 ?_
      refine lv_bipush (v := (15 : Int32)) hx hb d_L_law_36 (by decide) ?_
      refine lv_iand hx hb d_L_law_38 ?_
      obtain ⟨t, ht, et⟩ := pk_andE (xs (nI (5 * it)).toNatClampNeg) (m := (15 : Int32)) 4 (by decide +kernel)
      rw [et]
      have hkc : 16 + it + 1 ≤ 601024 := by omega
      have hks : 307 + 6 * it + 6 ≤ 7293034 := by omega
      rcases (show t = 0 ∨ t = 1 ∨ t = 2 ∨ t = 3 ∨ t = 4 ∨ t = 5 ∨ t = 6 ∨ t = 7 ∨ t = 8 ∨ t = 9 ∨ t = 10 ∨ t = 11 ∨ t = 12 ∨ t = 13 ∨ t = 14 ∨ t = 15 by omega) with rfl | rfl | rfl | rfl | rfl | rfl | rfl | rfl | rfl | rfl | rfl | rfl | rfl | rfl | rfl | rfl
      · obtain ⟨y_st, y_pl, y_tk, y_wd, y_er, y_mrm, y_mfl, y_mus, y_mlg, y_mse, y_mwe, y_mwh, y_nx, y_md, y_mth, y_mnx, y_mmd, y_mwr, y_ou, hF, hR2⟩ := kw_108 (L := L) (xs := xs) (v4 := nI (5 * it)) i1 i2 i3 i4 (tk := tk) (mse := mse) (mth := mth) (mwr := mwr) (ou := ou) hR
        refine lv_tableIn (off := 69) (tgt := 108) hx hb d_L_law_39 (by decide +kernel) (by decide +kernel) (by decide +kernel) (by decide) ?_
        exact cs_108 hx hb hml hown hts hfl hK hNw hE hX hbl _ _ _ _ _ _ _ _ _ _ _ _ _ _ _ _ _ _ _ _ _ _ _ _ _ _ _ _ _ _ _ _ _ _ _ (nI (5 * it)) (16 + it) (307 + 6 * it) hkc hks _ _ _ _ _ _ _ _ _ _ _ _ _ _ _ _ _ _ _ hF (fun H locs ls hP hD hS hl => next H locs ls _ _ _ _ _ _ _ _ _ _ _ _ _ _ _ _ _ _ _ hR2 hP hD hS hl) H locs ls hP hD hS hl
      · obtain ⟨y_st, y_pl, y_tk, y_wd, y_er, y_mrm, y_mfl, y_mus, y_mlg, y_mse, y_mwe, y_mwh, y_nx, y_md, y_mth, y_mnx, y_mmd, y_mwr, y_ou, hF, hR2⟩ := kw_164 (L := L) (xs := xs) (v4 := nI (5 * it)) i1 i2 i3 i4 (tk := tk) (mse := mse) (mth := mth) (mwr := mwr) (ou := ou) hR
        refine lv_tableIn (off := 125) (tgt := 164) hx hb d_L_law_39 (by decide +kernel) (by decide +kernel) (by decide +kernel) (by decide) ?_
        exact cs_164 hx hb hml hown hts hfl hK hNw hE hX hbl _ _ _ _ _ _ _ _ _ _ _ _ _ _ _ _ _ _ _ _ _ _ _ _ _ _ _ _ _ _ _ _ _ _ _ (nI (5 * it)) (16 + it) (307 + 6 * it) hkc hks _ _ _ _ _ _ _ _ _ _ _ _ _ _ _ _ _ _ _ hF (fun H locs ls hP hD hS hl => next H locs ls _ _ _ _ _ _ _ _ _ _ _ _ _ _ _ _ _ _ _ hR2 hP hD hS hl) H locs ls hP hD hS hl
      · obtain ⟨y_st, y_pl, y_tk, y_wd, y_er, y_mrm, y_mfl, y_mus, y_mlg, y_mse, y_mwe, y_mwh, y_nx, y_md, y_mth, y_mnx, y_mmd, y_mwr, y_ou, hF, hR2⟩ := kw_220 (L := L) (xs := xs) (v4 := nI (5 * it)) i1 i2 i3 i4 (tk := tk) (mse := mse) (mth := mth) (mwr := mwr) (ou := ou) hR
        refine lv_tableIn (off := 181) (tgt := 220) hx hb d_L_law_39 (by decide +kernel) (by decide +kernel) (by decide +kernel) (by decide) ?_
        exact cs_220 hx hb hml hown hts hfl hK hNw hE hX hbl _ _ _ _ _ _ _ _ _ _ _ _ _ _ _ _ _ _ _ _ _ _ _ _ _ _ _ _ _ _ _ _ _ _ _ (nI (5 * it)) (16 + it) (307 + 6 * it) hkc hks _ _ _ _ _ _ _ _ _ _ _ _ _ _ _ _ _ _ _ hF (fun H locs ls hP hD hS hl => next H locs ls _ _ _ _ _ _ _ _ _ _ _ _ _ _ _ _ _ _ _ hR2 hP hD hS hl) H locs ls hP hD hS hl
      · obtain ⟨y_st, y_pl, y_tk, y_wd, y_er, y_mrm, y_mfl, y_mus, y_mlg, y_mse, y_mwe, y_mwh, y_nx, y_md, y_mth, y_mnx, y_mmd, y_mwr, y_ou, hF, hR2⟩ := kw_233 (L := L) (xs := xs) (v4 := nI (5 * it)) i1 i2 i3 i4 (tk := tk) (mse := mse) (mth := mth) (mwr := mwr) (ou := ou) hR
        refine lv_tableIn (off := 194) (tgt := 233) hx hb d_L_law_39 (by decide +kernel) (by decide +kernel) (by decide +kernel) (by decide) ?_
        exact cs_233 hx hb hml hown hts hfl hK hNw hE hX hbl _ _ _ _ _ _ _ _ _ _ _ _ _ _ _ _ _ _ _ _ _ _ _ _ _ _ _ _ _ _ _ _ _ _ _ (nI (5 * it)) (16 + it) (307 + 6 * it) hkc hks _ _ _ _ _ _ _ _ _ _ _ _ _ _ _ _ _ _ _ hF (fun H locs ls hP hD hS hl => next H locs ls _ _ _ _ _ _ _ _ _ _ _ _ _ _ _ _ _ _ _ hR2 hP hD hS hl) H locs ls hP hD hS hl
      · obtain ⟨y_st, y_pl, y_tk, y_wd, y_er, y_mrm, y_mfl, y_mus, y_mlg, y_mse, y_mwe, y_mwh, y_nx, y_md, y_mth, y_mnx, y_mmd, y_mwr, y_ou, hF, hR2⟩ := kw_313 (L := L) (xs := xs) (v4 := nI (5 * it)) i1 i2 i3 i4 (tk := tk) (mse := mse) (mth := mth) (mwr := mwr) (ou := ou) hR
        refine lv_tableIn (off := 274) (tgt := 313) hx hb d_L_law_39 (by decide +kernel) (by decide +kernel) (by decide +kernel) (by decide) ?_
        exact cs_313 hx hb hml hown hts hfl hK hNw hE hX hbl _ _ _ _ _ _ _ _ _ _ _ _ _ _ _ _ _ _ _ _ _ _ _ _ _ _ _ _ _ _ _ _ _ _ _ (nI (5 * it)) (16 + it) (307 + 6 * it) hkc hks _ _ _ _ _ _ _ _ _ _ _ _ _ _ _ _ _ _ _ hF (fun H locs ls hP hD hS hl => next H locs ls _ _ _ _ _ _ _ _ _ _ _ _ _ _ _ _ _ _ _ hR2 hP hD hS hl) H locs ls hP hD hS hl
      · obtain ⟨y_st, y_pl, y_tk, y_wd, y_er, y_mrm, y_mfl, y_mus, y_mlg, y_mse, y_mwe, y_mwh, y_nx, y_md, y_mth, y_mnx, y_mmd, y_mwr, y_ou, hF, hR2⟩ := kw_368 (L := L) (xs := xs) (v4 := nI (5 * it)) i1 i2 i3 i4 (tk := tk) (mse := mse) (mth := mth) (mwr := mwr) (ou := ou) hR
        refine lv_tableIn (off := 329) (tgt := 368) hx hb d_L_law_39 (by decide +kernel) (by decide +kernel) (by decide +kernel) (by decide) ?_
        exact cs_368 hx hb hml hown hts hfl hK hNw hE hX hbl _ _ _ _ _ _ _ _ _ _ _ _ _ _ _ _ _ _ _ _ _ _ _ _ _ _ _ _ _ _ _ _ _ _ _ (nI (5 * it)) (16 + it) (307 + 6 * it) hkc hks _ _ _ _ _ _ _ _ _ _ _ _ _ _ _ _ _ _ _ hF (fun H locs ls hP hD hS hl => next H locs ls _ _ _ _ _ _ _ _ _ _ _ _ _ _ _ _ _ _ _ hR2 hP hD hS hl) H locs ls hP hD hS hl
      · obtain ⟨y_st, y_pl, y_tk, y_wd, y_er, y_mrm, y_mfl, y_mus, y_mlg, y_mse, y_mwe, y_mwh, y_nx, y_md, y_mth, y_mnx, y_mmd, y_mwr, y_ou, hF, hR2⟩ := kw_431 (L := L) (xs := xs) (v4 := nI (5 * it)) i1 i2 i3 i4 (tk := tk) (mse := mse) (mth := mth) (mwr := mwr) (ou := ou) hR
        refine lv_tableIn (off := 392) (tgt := 431) hx hb d_L_law_39 (by decide +kernel) (by decide +kernel) (by decide +kernel) (by decide) ?_
        exact cs_431 hx hb hml hown hts hfl hK hNw hE hX hbl _ _ _ _ _ _ _ _ _ _ _ _ _ _ _ _ _ _ _ _ _ _ _ _ _ _ _ _ _ _ _ _ _ _ _ (nI (5 * it)) (16 + it) (307 + 6 * it) hkc hks _ _ _ _ _ _ _ _ _ _ _ _ _ _ _ _ _ _ _ hF (fun H locs ls hP hD hS hl => next H locs ls _ _ _ _ _ _ _ _ _ _ _ _ _ _ _ _ _ _ _ hR2 hP hD hS hl) H locs ls hP hD hS hl
      · obtain ⟨y_st, y_pl, y_tk, y_wd, y_er, y_mrm, y_mfl, y_mus, y_mlg, y_mse, y_mwe, y_mwh, y_nx, y_md, y_mth, y_mnx, y_mmd, y_mwr, y_ou, hF, hR2⟩ := kw_503 (L := L) (xs := xs) (v4 := nI (5 * it)) i1 i2 i3 i4 (tk := tk) (mse := mse) (mth := mth) (mwr := mwr) (ou := ou) hR
        refine lv_tableIn (off := 464) (tgt := 503) hx hb d_L_law_39 (by decide +kernel) (by decide +kernel) (by decide +kernel) (by decide) ?_
        exact cs_503 hx hb hml hown hts hfl hK hNw hE hX hbl _ _ _ _ _ _ _ _ _ _ _ _ _ _ _ _ _ _ _ _ _ _ _ _ _ _ _ _ _ _ _ _ _ _ _ (nI (5 * it)) (16 + it) (307 + 6 * it) hkc hks _ _ _ _ _ _ _ _ _ _ _ _ _ _ _ _ _ _ _ hF (fun H locs ls hP hD hS hl => next H locs ls _ _ _ _ _ _ _ _ _ _ _ _ _ _ _ _ _ _ _ hR2 hP hD hS hl) H locs ls hP hD hS hl
      · obtain ⟨y_st, y_pl, y_tk, y_wd, y_er, y_mrm, y_mfl, y_mus, y_mlg, y_mse, y_mwe, y_mwh, y_nx, y_md, y_mth, y_mnx, y_mmd, y_mwr, y_ou, hF, hR2⟩ := kw_583 (L := L) (xs := xs) (v4 := nI (5 * it)) i1 i2 i3 i4 (tk := tk) (mse := mse) (mth := mth) (mwr := mwr) (ou := ou) hR
        refine lv_tableIn (off := 544) (tgt := 583) hx hb d_L_law_39 (by decide +kernel) (by decide +kernel) (by decide +kernel) (by decide) ?_
        exact cs_583 hx hb hml hown hts hfl hK hNw hE hX hbl _ _ _ _ _ _ _ _ _ _ _ _ _ _ _ _ _ _ _ _ _ _ _ _ _ _ _ _ _ _ _ _ _ _ _ (nI (5 * it)) (16 + it) (307 + 6 * it) hkc hks _ _ _ _ _ _ _ _ _ _ _ _ _ _ _ _ _ _ _ hF (fun H locs ls hP hD hS hl => next H locs ls _ _ _ _ _ _ _ _ _ _ _ _ _ _ _ _ _ _ _ hR2 hP hD hS hl) H locs ls hP hD hS hl
      · obtain ⟨y_st, y_pl, y_tk, y_wd, y_er, y_mrm, y_mfl, y_mus, y_mlg, y_mse, y_mwe, y_mwh, y_nx, y_md, y_mth, y_mnx, y_mmd, y_mwr, y_ou, hF, hR2⟩ := kw_596 (L := L) (xs := xs) (v4 := nI (5 * it)) i1 i2 i3 i4 (tk := tk) (mse := mse) (mth := mth) (mwr := mwr) (ou := ou) hR
        refine lv_tableIn (off := 557) (tgt := 596) hx hb d_L_law_39 (by decide +kernel) (by decide +kernel) (by decide +kernel) (by decide) ?_
        exact cs_596 hx hb hml hown hts hfl hK hNw hE hX hbl _ _ _ _ _ _ _ _ _ _ _ _ _ _ _ _ _ _ _ _ _ _ _ _ _ _ _ _ _ _ _ _ _ _ _ (nI (5 * it)) (16 + it) (307 + 6 * it) hkc hks _ _ _ _ _ _ _ _ _ _ _ _ _ _ _ _ _ _ _ hF (fun H locs ls hP hD hS hl => next H locs ls _ _ _ _ _ _ _ _ _ _ _ _ _ _ _ _ _ _ _ hR2 hP hD hS hl) H locs ls hP hD hS hl
      · obtain ⟨y_st, y_pl, y_tk, y_wd, y_er, y_mrm, y_mfl, y_mus, y_mlg, y_mse, y_mwe, y_mwh, y_nx, y_md, y_mth, y_mnx, y_mmd, y_mwr, y_ou, hF, hR2⟩ := kw_640 (L := L) (xs := xs) (v4 := nI (5 * it)) i1 i2 i3 i4 (tk := tk) (mse := mse) (mth := mth) (mwr := mwr) (ou := ou) hR
        refine lv_tableIn (off := 601) (tgt := 640) hx hb d_L_law_39 (by decide +kernel) (by decide +kernel) (by decide +kernel) (by decide) ?_
        exact cs_640 hx hb hml hown hts hfl hK hNw hE hX hbl _ _ _ _ _ _ _ _ _ _ _ _ _ _ _ _ _ _ _ _ _ _ _ _ _ _ _ _ _ _ _ _ _ _ _ (nI (5 * it)) (16 + it) (307 + 6 * it) hkc hks _ _ _ _ _ _ _ _ _ _ _ _ _ _ _ _ _ _ _ hF (fun H locs ls hP hD hS hl => next H locs ls _ _ _ _ _ _ _ _ _ _ _ _ _ _ _ _ _ _ _ hR2 hP hD hS hl) H locs ls hP hD hS hl
      · obtain ⟨y_st, y_pl, y_tk, y_wd, y_er, y_mrm, y_mfl, y_mus, y_mlg, y_mse, y_mwe, y_mwh, y_nx, y_md, y_mth, y_mnx, y_mmd, y_mwr, y_ou, hF, hR2⟩ := kw_696 (L := L) (xs := xs) (v4 := nI (5 * it)) i1 i2 i3 i4 (tk := tk) (mse := mse) (mth := mth) (mwr := mwr) (ou := ou) hR
        refine lv_tableIn (off := 657) (tgt := 696) hx hb d_L_law_39 (by decide +kernel) (by decide +kernel) (by decide +kernel) (by decide) ?_
        exact cs_696 hx hb hml hown hts hfl hK hNw hE hX hbl _ _ _ _ _ _ _ _ _ _ _ _ _ _ _ _ _ _ _ _ _ _ _ _ _ _ _ _ _ _ _ _ _ _ _ (nI (5 * it)) (16 + it) (307 + 6 * it) hkc hks _ _ _ _ _ _ _ _ _ _ _ _ _ _ _ _ _ _ _ hF (fun H locs ls hP hD hS hl => next H locs ls _ _ _ _ _ _ _ _ _ _ _ _ _ _ _ _ _ _ _ hR2 hP hD hS hl) H locs ls hP hD hS hl
      · obtain ⟨y_st, y_pl, y_tk, y_wd, y_er, y_mrm, y_mfl, y_mus, y_mlg, y_mse, y_mwe, y_mwh, y_nx, y_md, y_mth, y_mnx, y_mmd, y_mwr, y_ou, hF, hR2⟩ := kw_764 (L := L) (xs := xs) (v4 := nI (5 * it)) i1 i2 i3 i4 (tk := tk) (mse := mse) (mth := mth) (mwr := mwr) (ou := ou) hR
        refine lv_tableIn (off := 725) (tgt := 764) hx hb d_L_law_39 (by decide +kernel) (by decide +kernel) (by decide +kernel) (by decide) ?_
        exact cs_764 hx hb hml hown hts hfl hK hNw hE hX hbl _ _ _ _ _ _ _ _ _ _ _ _ _ _ _ _ _ _ _ _ _ _ _ _ _ _ _ _ _ _ _ _ _ _ _ (nI (5 * it)) (16 + it) (307 + 6 * it) hkc hks _ _ _ _ _ _ _ _ _ _ _ _ _ _ _ _ _ _ _ hF (fun H locs ls hP hD hS hl => next H locs ls _ _ _ _ _ _ _ _ _ _ _ _ _ _ _ _ _ _ _ hR2 hP hD hS hl) H locs ls hP hD hS hl
      · obtain ⟨y_st, y_pl, y_tk, y_wd, y_er, y_mrm, y_mfl, y_mus, y_mlg, y_mse, y_mwe, y_mwh, y_nx, y_md, y_mth, y_mnx, y_mmd, y_mwr, y_ou, hF, hR2⟩ := kw_820 (L := L) (xs := xs) (v4 := nI (5 * it)) i1 i2 i3 i4 (tk := tk) (mse := mse) (mth := mth) (mwr := mwr) (ou := ou) hR
        refine lv_tableIn (off := 781) (tgt := 820) hx hb d_L_law_39 (by decide +kernel) (by decide +kernel) (by decide +kernel) (by decide) ?_
        exact cs_820 hx hb hml hown hts hfl hK hNw hE hX hbl _ _ _ _ _ _ _ _ _ _ _ _ _ _ _ _ _ _ _ _ _ _ _ _ _ _ _ _ _ _ _ _ _ _ _ (nI (5 * it)) (16 + it) (307 + 6 * it) hkc hks _ _ _ _ _ _ _ _ _ _ _ _ _ _ _ _ _ _ _ hF (fun H locs ls hP hD hS hl => next H locs ls _ _ _ _ _ _ _ _ _ _ _ _ _ _ _ _ _ _ _ hR2 hP hD hS hl) H locs ls hP hD hS hl
      · refine lv_tableOut (tgt := 833) hx hb d_L_law_39 (by decide +kernel) (by decide) ?_
        refine W.widen (k := 16 + it + 1) (n := 307 + 6 * it + 6) (Nat.le_add_right _ _) (Nat.le_add_right _ _) ?_
        exact next H locs ls _ _ _ _ _ _ _ _ _ _ _ _ _ _ _ _ _ _ _ hR hP hD hS hl
      · refine lv_tableOut (tgt := 833) hx hb d_L_law_39 (by decide +kernel) (by decide) ?_
        refine W.widen (k := 16 + it + 1) (n := 307 + 6 * it + 6) (Nat.le_add_right _ _) (Nat.le_add_right _ _) ?_
        exact next H locs ls _ _ _ _ _ _ _ _ _ _ _ _ _ _ _ _ _ _ _ hR hP hD hS hl
  refine va_new (ci := 1) (fs := [.null, .null, .null, .null, .int 0, .int 0]) (C := "FlashStore") (T := TF) (N := 6) hx hb hts inTF tyTF tyTF_ok hown (hts _ (List.mem_cons_of_mem _ bq_1_14)) (hts _ (List.mem_cons_of_mem _ bq_1_15)) (hts _ (List.mem_cons_of_mem _ bq_1_1)) hK hP hD hS hA rfl (fun j hj => by rcases (show j = 0 ∨ j = 1 ∨ j = 2 ∨ j = 3 ∨ j = 4 ∨ j = 5 by omega) with rfl | rfl | rfl | rfl | rfl | rfl <;> rfl) (Nat.le_of_ble_eq_true rfl) (Nat.le_of_ble_eq_true rfl) d_L_law_0 (fun h0 H hP hD hS => ?_)
  have hP : va_P (dC, dI) vwCl [(h0, .inr (1, [.null, .null, .null, .null, .int 0, .int 0]))] H := hP
  have hD : va_D (fun q => s.heap.size ≤ q) [(h0, .inr (1, [.null, .null, .null, .null, .int 0, .int 0]))] := hD
  refine W.widen (k := 1) (n := 6) (Nat.le_of_ble_eq_true rfl) (Nat.le_of_ble_eq_true rfl) ?_
  refine lv_dup hx hb d_L_law_3 rfl ?_
  have hFc := va_free (wc := [(h0, .inr (1, [.null, .null, .null, .null, .int 0, .int 0]))]) hD hS hA [0] rfl
  refine va_callv (va_runI (As := []) (rest := [.ref h0]) ⟨hx, hb, hml, hown, hts⟩ (c_F_init l dC dI h0 H.size) (cwI 0 hts (tg_N bq_1_18) rfl rfl rfl (hts _ (List.mem_cons_of_mem _ bq_1_1)) (hts _ (List.mem_cons_of_mem _ bq_1_16)) (hts _ (List.mem_cons_of_mem _ bq_1_17)) rfl (by decide +kernel) ⟨Nat.le_of_ble_eq_true rfl, Nat.le_of_ble_eq_true rfl⟩) ⟨tx_blW, tx_preW hP hD hK hNw⟩ rfl rfl hl.1 rfl (lv_room (Nat.le_of_ble_eq_true rfl)) d_L_law_4 ⟨Nat.le_of_ble_eq_true rfl, Nat.le_of_ble_eq_true rfl⟩) hS (fun q _ h => hFc q h) hFc (fun _u t H1 locs ht hvm hw hB hz1 hk1 hS => ?_)
  obtain ⟨cA, q1, q2, q3, q4, q5, q6, hP1, hK1, hD1⟩ := hB
  rw [ht] at hP1
  have hK0 := hK
  have hK : va_K (dC, dI) vwCl [(cA, .int)] s := va_K.moved hvm.symm hK1
  obtain ⟨hP, hD⟩ := va_join (wr := []) (w1 := [(h0, .inr (1, [.ref q1, .ref q2, .ref q3, .ref q4, .int (0 : Int32), .int (0 : Int32)])), (q1, .inr (0, [.ref q5, .ref q6])), (q2, .inl (cA, 16, .inl (kf_fill 16 (fun _ => 0) (0 : Int32)))), (q3, .inl (cA, 8, .inl (kf_fill 8 kz_f (-1 : Int32)))), (q4, .inl (cA, 8, .inl (fun _ => 0))), (q5, .inl (cA, 80, .inl (kf_fill 80 (fun _ => 0) (2147483647 : Int32)))), (q6, .inl (cA, 4, .inl (fun _ => 0)))]) hP hD [0] [] rfl rfl (by decide) (by decide) hk1 hFc hP1 hD1
  generalize H1 = H at hP hS ⊢
  have hP : va_P (dC, dI) vwCl (wF cA h0 q1 q2 q3 q4 q5 q6 (kf_fill 16 (fun _ => 0) (0 : Int32)) (kf_fill 8 kz_f (-1 : Int32)) (fun _ => 0) (kf_fill 80 (fun _ => 0) (2147483647 : Int32)) (fun _ => 0) (0 : Int32) (0 : Int32)) H := hP
  have hD : va_D (fun q => s.heap.size ≤ q) (wF cA h0 q1 q2 q3 q4 q5 q6 (kf_fill 16 (fun _ => 0) (0 : Int32)) (kf_fill 8 kz_f (-1 : Int32)) (fun _ => 0) (kf_fill 80 (fun _ => 0) (2147483647 : Int32)) (fun _ => 0) (0 : Int32) (0 : Int32)) := hD
  refine W.widen (k := 7) (n := 124) (Nat.le_of_ble_eq_true rfl) (Nat.le_of_ble_eq_true rfl) ?_
  refine lv_astore_n hx hb d_L_law_7 rfl hl (by decide) rfl (fun ls hl => ?_)
  refine va_new (ci := 2) (fs := [.int 0, .null, .null, .null, .null, .null, .null, .null, .int 0, .int 0, .int 0]) (C := "FlashStoreModel") (T := TR) (N := 11) hx hb hts inTR tyTR tyTR_ok hown (hts _ (List.mem_cons_of_mem _ bq_2_184)) (hts _ (List.mem_cons_of_mem _ bq_2_185)) (hts _ (List.mem_cons_of_mem _ bq_1_4)) hK hP hD hS hA rfl (fun j hj => by rcases (show j = 0 ∨ j = 1 ∨ j = 2 ∨ j = 3 ∨ j = 4 ∨ j = 5 ∨ j = 6 ∨ j = 7 ∨ j = 8 ∨ j = 9 ∨ j = 10 by omega) with rfl | rfl | rfl | rfl | rfl | rfl | rfl | rfl | rfl | rfl | rfl <;> rfl) (Nat.le_of_ble_eq_true rfl) (Nat.le_of_ble_eq_true rfl) d_L_law_8 (fun g0 H hP hD hS => ?_)
  have hPc := hP.sub (ws' := [(g0, .inr (2, [.int 0, .null, .null, .null, .null, .null, .null, .null, .int 0, .int 0, .int 0]))]) [7] rfl
  have hDc := hD.sub (ws' := [(g0, .inr (2, [.int 0, .null, .null, .null, .null, .null, .null, .null, .int 0, .int 0, .int 0]))]) [7] (by decide) rfl
  have hFc := va_free (wc := [(g0, .inr (2, [.int 0, .null, .null, .null, .null, .null, .null, .null, .int 0, .int 0, .int 0]))]) hD hS hA [7] rfl
  refine W.widen (k := 8) (n := 135) (Nat.le_of_ble_eq_true rfl) (Nat.le_of_ble_eq_true rfl) ?_
  refine lv_dup hx hb d_L_law_11 rfl ?_
  refine va_callv (va_runI (As := []) (rest := [.ref g0]) ⟨hx, hb, hml, hown, hts⟩ (c_R_init l dC dI g0 H.size) (cwI 0 hts (tg_N bq_2_188) rfl rfl rfl (hts _ (List.mem_cons_of_mem _ bq_1_4)) (hts _ (List.mem_cons_of_mem _ bq_2_186)) (hts _ (List.mem_cons_of_mem _ bq_2_187)) rfl (by decide +kernel) ⟨Nat.le_of_ble_eq_true rfl, Nat.le_of_ble_eq_true rfl⟩) ⟨tx_blW, tx_preW hPc hDc hK0 hNw⟩ rfl rfl hl.1 rfl (lv_room (Nat.le_of_ble_eq_true rfl)) d_L_law_12 ⟨Nat.le_of_ble_eq_true rfl, Nat.le_of_ble_eq_true rfl⟩) hS (fun q _ h => hFc q h) hFc (fun _u t H1 locs ht hvm hw hB hz1 hk1 hS => ?_)
  obtain ⟨cB, g1, g2, g3, g4, g5, g6, g7, rm, hrm, hP1, hK1, hD1⟩ := hB
  rw [ht] at hP1
  have hK2 : va_K (dC, dI) vwCl [(cB, .int)] s := va_K.moved hvm.symm hK1
  obtain rfl : cA = cB := Option.some.inj ((va_nm_int (hK.2 0 _ rfl).2).symm.trans (va_nm_int (hK2.2 0 _ rfl).2))
  obtain ⟨hP, hD⟩ := va_join (wr := (wF cA h0 q1 q2 q3 q4 q5 q6 (kf_fill 16 (fun _ => 0) (0 : Int32)) (kf_fill 8 kz_f (-1 : Int32)) (fun _ => 0) (kf_fill 80 (fun _ => 0) (2147483647 : Int32)) (fun _ => 0) (0 : Int32) (0 : Int32))) (w1 := (wR cA g0 g1 g2 g3 g4 g5 g6 g7 rm (kf_fill 80 (fun _ => 0) (2147483647 : Int32)) (fun _ => 0) (fun _ => 0) (fun _ => 0) (fun _ => 0) (fun _ => 0) (0 : Int32) (0 : Int32) (0 : Int32) (0 : Int32))) hP hD [7] [0, 1, 2, 3, 4, 5, 6] rfl rfl (by decide) (by decide) hk1 hFc hP1 hD1
  generalize H1 = H at hP hS ⊢
  refine W.widen (k := 15) (n := 306) (Nat.le_of_ble_eq_true rfl) (Nat.le_of_ble_eq_true rfl) ?_
  refine lv_astore_n hx hb d_L_law_15 rfl hl (by decide) rfl (fun ls hl => ?_)
  refine lv_iconst (v := (1 : Int32)) hx hb d_L_law_16 (by decide) ?_
  refine va_newa (atype := .long) (a0 := (1, .inr (.inl (fun _ => 0)))) (N' := 1) (ty := .long) hx hb (hts _ (List.mem_cons_of_mem _ bq_3_116)) rfl hK hP hD hS hA (fun _ => rfl) (by decide) (by decide) (Nat.le_of_ble_eq_true rfl) (Nat.le_of_ble_eq_true rfl) (Nat.le_of_ble_eq_true rfl) d_L_law_17 (fun qo cL H hK hP hD hS => ?_)
  have hK : va_K (dC, dI) vwCl [(cA, .int), (cL, .long)] s := hK
  have hP : va_P (dC, dI) vwCl (wW cA cL h0 q1 q2 q3 q4 q5 q6 g0 g1 g2 g3 g4 g5 g6 g7 qo (kf_fill 16 (fun _ => 0) (0 : Int32)) (kf_fill 8 kz_f (-1 : Int32)) (fun _ => 0) (kf_fill 80 (fun _ => 0) (2147483647 : Int32)) (fun _ => 0) rm (kf_fill 80 (fun _ => 0) (2147483647 : Int32)) (fun _ => 0) (fun _ => 0) (fun _ => 0) (fun _ => 0) (fun _ => 0) (0 : Int32) (0 : Int32) (0 : Int32) (0 : Int32) (0 : Int32) (0 : Int32) (fun _ => 0)) H := hP
  have hD : va_D (fun q => s.heap.size ≤ q) (wW cA cL h0 q1 q2 q3 q4 q5 q6 g0 g1 g2 g3 g4 g5 g6 g7 qo (kf_fill 16 (fun _ => 0) (0 : Int32)) (kf_fill 8 kz_f (-1 : Int32)) (fun _ => 0) (kf_fill 80 (fun _ => 0) (2147483647 : Int32)) (fun _ => 0) rm (kf_fill 80 (fun _ => 0) (2147483647 : Int32)) (fun _ => 0) (fun _ => 0) (fun _ => 0) (fun _ => 0) (fun _ => 0) (0 : Int32) (0 : Int32) (0 : Int32) (0 : Int32) (0 : Int32) (0 : Int32) (fun _ => 0)) := hD
  refine W.widen (k := 16 + 0) (n := 307 + 6 * 0) (Nat.le_of_ble_eq_true rfl) (Nat.le_of_ble_eq_true rfl) ?_
  refine lv_astore_n hx hb d_L_law_19 rfl hl (by decide) rfl (fun ls hl => ?_)
  refine lv_iconst (v := (0 : Int32)) hx hb d_L_law_20 (by decide) ?_
  refine lv_istore hx hb d_L_law_21 hl (by decide) rfl (fun ls hl => ?_)
  exact loop cA cL h0 q1 q2 q3 q4 q5 q6 g0 g1 g2 g3 g4 g5 g6 g7 qo hK 513 0 (by decide) H locs ls (kf_fill 16 (fun _ => 0) (0 : Int32)) (kf_fill 8 kz_f (-1 : Int32)) (fun _ => 0) (kf_fill 80 (fun _ => 0) (2147483647 : Int32)) (fun _ => 0) rm (kf_fill 80 (fun _ => 0) (2147483647 : Int32)) (fun _ => 0) (fun _ => 0) (fun _ => 0) (fun _ => 0) (fun _ => 0) (0 : Int32) (0 : Int32) (0 : Int32) (0 : Int32) (0 : Int32) (0 : Int32) (fun _ => 0) (ke_i0 hrm) hP hD hS (lv_sub hl [4, 3, 2, 1, 0] rfl)
