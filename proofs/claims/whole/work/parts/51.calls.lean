/-! Each call of the law: the class's answer and the reference's. -/
theorem kw_tail {T : Type} {c : Int32} {a b : Int64} {J : Option T} (h : c = 0 → a = b) : ((f_R_thrown c).bind fun r => if r = c then (if c = 0 then (if (0 : Int32) < 0 ∨ 1 ≤ (0 : Int32).toNatClampNeg then none else if lg_cmp a b = 0 then J else none) else J) else none) = J := by
  unfold f_R_thrown
  rw [Option.bind_some, if_pos rfl]
  by_cases hc : c = 0
  · rw [if_pos hc, if_neg (by decide), if_pos ((lg_cmp_eq a b).mpr (h hc))]
  · rw [if_neg hc]
theorem kw_tail2 {T : Type} {c : Int32} {J : Option T} : ((f_R_thrown c).bind fun r => if r = c then J else none) = J := by
  unfold f_R_thrown
  rw [Option.bind_some, if_pos rfl]
theorem ko_0 : ¬ ((0 : Int32) < 0 ∨ 1 ≤ (0 : Int32).toNatClampNeg) := by decide
theorem ko_up (ou : Nat → Int64) (v : Int64) : vp_updL ou (0 : Int32).toNatClampNeg v (0 : Int32).toNatClampNeg = v := pk_uLs
theorem ko_encode {rm : Nat → Int32} (hr : kR rm) (ou : Nat → Int64) (th a : Int32) : ∃ c rv ou', f_L_encode ou a = some (c, ou') ∧ f_R_encode rm th a = some (rv, c) ∧ (c = 0 → ou' (0 : Int32).toNatClampNeg = rv.toInt64) := by
  unfold f_L_encode f_R_encode x_F_encode x_F_encode_J10 f_F_encode f_R_encode_J27 f_R_fail
  rcases ks_range a (n := 65536) (by decide) with h | ⟨d, hd, rfl⟩
  · have e := ks_outO 65536 h
    refine ⟨1, 0, ou, ?_, ?_, fun h => absurd h (by decide)⟩
    · by_cases h0 : a < 0
      · simp only [if_pos h0, Option.elim]
        rfl
      · have h1 : ¬ a ≤ (65535 : Int32) := fun e => by
          have h2 : nI 65536 ≤ a := h.elim (fun e => absurd e h0) id
          obtain ⟨j, hj, rfl⟩ := nI_of h0
          have h3 := (nI_leI (by decide) hj).mp h2
          have h4 := (nI_leI (b := 65535) hj (by decide)).mp e
          omega
        simp only [if_neg h0, if_neg h1, Option.elim]
        rfl
    · show (f_R_out a (nI 65536)).bind _ = _
      rw [e]
      rfl
  · have h0 : ¬ nI d < 0 := nI_pos (by omega)
    have h1 : nI d ≤ (65535 : Int32) := nI_le (b := 65535) (by omega) (by decide)
    refine ⟨0, nI (kc_w d), vp_updL ou (0 : Int32).toNatClampNeg (nI (kc_w d)).toInt64, ?_, ?_, fun _ => ko_up _ _⟩
    · simp only [if_neg h0, if_pos h1, kn_cw hd, Option.bind_some, Option.elim, if_neg ko_0]
    · show (f_R_out (nI d) (nI 65536)).bind _ = _
      rw [ks_outI 65536 hd (by decide), Option.bind_some, if_pos rfl, kn_cwR hr hd]
      rfl
theorem ko_decode {rm : Nat → Int32} (hr : kR rm) (ou : Nat → Int64) (th md wr a : Int32) : ∃ c rv md' ou' wr', f_L_decode md ou a = some (c, md', ou') ∧ f_R_decode rm th md wr a = some (rv, c, md', wr') ∧ (c = 0 → ou' (0 : Int32).toNatClampNeg = rv.toInt64) := by
  unfold f_L_decode f_R_decode x_F_decode f_F_decode f_R_fail
  by_cases h0 : 0 ≤ a
  · obtain ⟨w, hw, rfl⟩ := nI_of (x := a) (fun e => (ks_nle.mpr e) h0)
    simp only [if_pos h0, kn_mend hw, kn_data hr wr hw, Option.bind_some]
    cases hE : kE w with
    | none => exact ⟨2, 0, md, ou, 0, rfl, rfl, fun h => absurd h (by decide)⟩
    | some c =>
      obtain ⟨h1, h2, h3⟩ := kE_some hw hE
      have hx : w ^^^ c < 2 ^ 31 := Nat.xor_lt_two_pow hw h1
      have hb : f_U_bitCount (nI w ^^^ nI c) = some (nI (kc_p 31 (w ^^^ c))) := by
        rw [kn_xor, kn_bcN hx, kc_bcP (kc_pat_of hx h3).1]
      rw [show kvm (some c) = nI c from rfl, show kvd w (some c) = (nI (c / 2 ^ 15), nI (kc_p 31 (w ^^^ c))) from rfl]
      simp only [if_neg (kn_neg1 h1), hb, Option.bind_some, kp_dataC h1, Option.elim, if_neg ko_0]
      rw [if_pos (show 0 ≤ nI (c / 2 ^ 15) from nI_pos' (by omega))]
      exact ⟨_, _, _, _, _, rfl, rfl, fun _ => ko_up _ _⟩
  · simp only [if_neg h0]
    exact ⟨1, 0, md, ou, wr, rfl, rfl, fun h => absurd h (by decide)⟩
theorem ko_write {rm : Nat → Int32} (hrm : kR rm) {st pl wd lg : Nat → Int32} {x : Nat} (hI : kI st pl lg) (hw : kWd wd) (hx : x < 4095) (se er : Nat → Int32) (th wr a : Int32) (v : Int64) :
    ∃ c st' pl' wd' er' lg' se' x' wr', f_L_write st pl wd er (nI x) a v = some (c, st', pl', wd', er', nI x') ∧ f_R_write rm wd st lg se er (kwh pl) th (nI x) wr a v = some (wd', st', lg', se', er', kwh pl', c, nI x', wr') ∧ kI st' pl' lg' ∧ kWd wd' ∧ x' < 4095 := by
  unfold f_L_write f_R_write x_F_write f_F_write f_R_write_J15
  rcases ks_range a (n := 8) (by decide) with h | ⟨k, hk, rfl⟩
  · refine ⟨1, st, pl, wd, er, lg, se, x, wr, ?_, ?_, hI, hw, hx⟩
    · rw [ks_reqX h]
      rfl
    · show (f_R_out a (nI 8)).bind _ = _
      rw [ks_outO 8 h, Option.bind_some, if_neg (by decide)]
      show f_R_write_H (99 + 1) rm wd st lg se er (kwh pl) 1 (nI x) wr a v = _
      rw [f_R_write_H, if_neg (by decide)]
      unfold f_R_write_J65 f_R_write_J83
      rw [if_neg (by decide)]
  · rw [(ks_reqF hk).1, (ks_reqF hk).2, show f_R_out (nI k) 8 = some 0 from ks_outI 8 hk (by decide), Option.bind_some, Option.bind_some, Option.bind_some, if_pos rfl]
    rcases ks_write hrm hI hw hx hk se er wr v with ⟨e1, e2⟩ | ⟨e0, st', pl', wd', er', lg', se', x', wr', e1, e2, g1, g2, g3⟩
    · refine ⟨2, st, pl, wd, er, lg, se, x, wr, ?_, e2, hI, hw, hx⟩
      show (x_F_write_H 100 st pl wd er (nI x) (nI k) v 0).elim _ _ = _
      rw [e1]
      rfl
    · refine ⟨0, st', pl', wd', er', lg', se', x', wr', ?_, e2, g1, g2, g3⟩
      show (x_F_write_H 100 st pl wd er (nI x) (nI k) v 0).elim _ _ = _
      rw [e0, e1]
      rfl
theorem ko_read {rm : Nat → Int32} (hr : kR rm) {st pl wd lg : Nat → Int32} (hI : kI st pl lg) (hw : kWd wd) (ou : Nat → Int64) (th wr a : Int32) : ∃ c rv ou' wr', f_L_read pl wd ou a = some (c, ou') ∧ f_R_read rm wd (kwh pl) th wr a = some (rv, c, wr') ∧ (c = 0 → ou' (0 : Int32).toNatClampNeg = rv) := by
  unfold f_L_read f_R_read x_F_read f_F_read f_R_read_J15 f_R_read_J58 f_R_read_J77
  rcases ks_range a (n := 8) (by decide) with h | ⟨k, hk, rfl⟩
  · refine ⟨1, 0, ou, wr, ?_, ?_, fun h => absurd h (by decide)⟩
    · rw [ks_reqX h]
      rfl
    · show (f_R_out a (nI 8)).bind _ = _
      rw [ks_outO 8 h]
      rfl
  · have hin := nI_in (c := k) (N := 8) hk (by decide)
    have hin' : ¬ (nI k < 0 ∨ 8 ≤ k) := fun h => h.elim (nI_pos (by omega)) (by omega)
    have hcl : (nI k).toNatClampNeg = k := nI_clamp (by omega)
    simp only [(ks_reqF hk).1, (ks_reqF hk).2, show f_R_out (nI k) 8 = some 0 from ks_outI 8 hk (by decide), Option.bind_some, if_neg hin, if_neg hin', hcl, Option.elim]
    rw [if_pos trivial, if_pos (show (0 : Int32) ≤ 0 by decide)]
    rcases hI.1 k hk with e | ⟨p, hp, e, -, -⟩
    · rw [if_pos e, if_pos e, if_neg (show ¬ 0 ≤ kwh pl k - 1 by unfold kwh; rw [e]; decide)]
      exact ⟨2, 0, ou, wr, rfl, rfl, fun h => absurd h (by decide)⟩
    · have e1 : kwh pl k - 1 = nI p := by
        unfold kwh
        rw [e, nI_1, nI_pred]
      have hne : ¬ pl k = -1 := by rw [e]; exact kn_neg1 (by omega)
      rw [if_neg hne, if_neg hne, e1, if_pos (nI_pos' (by omega)), e]
      obtain ⟨wr1, hrd⟩ := kp_readR hw hr wr hp
      rw [kp_readF hw hp, hrd, Option.bind_some, Option.bind_some]
      by_cases hR : kRd wd p
      · obtain ⟨wr2, hct⟩ := kp_contR hw hr wr1 hp hR
        simp only [kB_t hR, kp_contF hw hp hR, Option.bind_some, if_neg ko_0]
        rw [if_neg (show ¬ (1 : Int32) = 0 by decide), if_neg (show ¬ (1 : Int32) = 0 by decide), if_neg (show ¬ (1 : Int32) = 0 by decide), if_pos (show (0 : Int32) ≤ 0 by decide), hct]
        exact ⟨_, _, _, _, rfl, rfl, fun _ => ko_up _ _⟩
      · simp only [kB_f hR]
        exact ⟨3, 0, ou, wr1, rfl, rfl, fun h => absurd h (by decide)⟩
theorem ko_trim {st pl lg : Nat → Int32} (hI : kI st pl lg) (ou : Nat → Int64) (th a : Int32) : ∃ c rv st' pl' ou', f_L_trim st pl ou a = some (c, st', pl', ou') ∧ f_R_trim st (kwh pl) th a = some (rv, st', kwh pl', c) ∧ kI st' pl' lg ∧ (c = 0 → (rv = 0 ∧ ou' (0 : Int32).toNatClampNeg = 0) ∨ (¬ rv = 0 ∧ ou' (0 : Int32).toNatClampNeg = 1)) := by
  unfold f_L_trim f_R_trim x_F_trim f_F_trim f_F_trim_J19 x_F_trim_J19 f_L_trim_J15 f_R_trim_J15 f_R_trim_J34
  rcases ks_range a (n := 8) (by decide) with h | ⟨k, hk, rfl⟩
  · refine ⟨1, 0, st, pl, ou, ?_, ?_, hI, fun h => absurd h (by decide)⟩
    · rw [ks_reqX h]
      rfl
    · show (f_R_out a (nI 8)).bind _ = _
      rw [ks_outO 8 h]
      rfl
  · have hin := nI_in (c := k) (N := 8) hk (by decide)
    have hin' : ¬ (nI k < 0 ∨ 8 ≤ k) := fun h => h.elim (nI_pos (by omega)) (by omega)
    have hcl : (nI k).toNatClampNeg = k := nI_clamp (by omega)
    simp only [(ks_reqF hk).1, (ks_reqF hk).2, show f_R_out (nI k) 8 = some 0 from ks_outI 8 hk (by decide), Option.bind_some, if_neg hin, if_neg hin', hcl, Option.elim, ks_forget hI hk, if_neg ko_0]
    rw [if_pos trivial, if_neg (show ¬ (0 : Int32) < 0 by decide)]
    have hf := kI_forget hI hk
    rcases hI.1 k hk with e | ⟨p, hp, e, -, -⟩
    · have e2 : kfs st pl k = st := by unfold kfs; rw [if_pos e]
      have e3 : kfp pl k = pl := by unfold kfp; rw [if_pos e]
      rw [e2, e3] at hf
      simp only [if_pos e, e2, e3]
      rw [if_pos (show kwh pl k = 0 by unfold kwh; rw [e]; decide)]
      exact ⟨0, 0, st, pl, _, rfl, rfl, hf, fun _ => Or.inl ⟨rfl, ko_up _ _⟩⟩
    · have e1 : kwh pl k - 1 = nI p := by
        unfold kwh
        rw [e, nI_1, nI_pred]
      have hne : ¬ pl k = -1 := by rw [e]; exact kn_neg1 (by omega)
      have e2 : kfs st pl k = upd st p 2 := by unfold kfs; rw [if_neg hne, e, nI_clamp (by omega)]
      have e3 : kfp pl k = upd pl k (-1) := by unfold kfp; rw [if_neg hne]
      rw [e2, e3] at hf
      simp only [if_neg hne, e2, e3, e1, kwh_upd0, nI_clamp (show p < 2 ^ 31 by omega)]
      have hin2 : ¬ (nI p < 0 ∨ 16 ≤ p) := fun h => h.elim (nI_pos (by omega)) (by omega)
      rw [if_neg (show ¬ kwh pl k = 0 by unfold kwh; rw [e, nI_1]; exact nI_ne0 (by omega) (by omega)), if_neg hin2]
      exact ⟨0, 1, upd st p 2, upd pl k (-1), _, rfl, rfl, hf, fun _ => Or.inr ⟨by decide, ko_up _ _⟩⟩
theorem ko_clean {rm : Nat → Int32} (hrm : kR rm) {st pl wd lg : Nat → Int32} {x : Nat} (hI : kI st pl lg) (hw : kWd wd) (hx : x < 4095) (se er : Nat → Int32) (ou : Nat → Int64) (th wr : Int32) :
    ∃ c rv st' pl' wd' er' lg' se' x' wr' ou', f_L_clean st pl wd er (nI x) ou = some (c, st', pl', wd', er', nI x', ou') ∧ f_R_clean rm wd st lg se er (kwh pl) th (nI x) wr = some (rv, wd', st', lg', se', er', kwh pl', c, nI x', wr') ∧ kI st' pl' lg' ∧ kWd wd' ∧ x' < 4095 ∧ (c = 0 → ou' (0 : Int32).toNatClampNeg = rv.toInt64) := by
  unfold f_L_clean f_R_clean x_F_clean f_F_clean f_R_clean_J15
  rw [ks_tcF, ks_tcR, Option.bind_some, Option.bind_some, Option.bind_some]
  cases hT : kT st er with
  | none =>
    exact ⟨1, 0, st, pl, wd, er, lg, se, x, wr, ou, rfl, rfl, hI, hw, hx, fun h => absurd h (by decide)⟩
  | some b =>
    obtain ⟨hb, hC⟩ := kT_some hT
    obtain ⟨st', pl', wd', er', lg', se', x', wr', f1, f2, g1, g2, g3, -, -⟩ := ks_clean hrm hb hI hw hx hC.2.2 se er wr
    rw [show kvo (some b) = nI b from rfl, if_neg (kn_neg1 (by omega)), if_neg (kn_neg1 (by omega)), f1, if_pos (nI_pos' (by omega)), if_pos (show (0 : Int32) ≤ 0 by decide), f2]
    simp only [Option.bind_some, Option.elim, if_neg ko_0]
    exact ⟨0, nI b, st', pl', wd', er', lg', se', x', wr', _, rfl, rfl, g1, g2, g3, fun _ => ko_up _ _⟩
theorem ko_place {st pl lg : Nat → Int32} (hI : kI st pl lg) (ou : Nat → Int64) (th a : Int32) : ∃ c rv ou', f_L_place pl ou a = some (c, ou') ∧ f_R_place (kwh pl) th a = some (rv, c) ∧ (c = 0 → ou' (0 : Int32).toNatClampNeg = rv.toInt64) := by
  unfold f_L_place f_R_place x_F_place f_F_place f_R_place_J30 f_R_fail
  rcases ks_range a (n := 8) (by decide) with h | ⟨k, hk, rfl⟩
  · refine ⟨1, 0, ou, ?_, ?_, fun h => absurd h (by decide)⟩
    · rw [ks_reqX h]
      rfl
    · show (f_R_out a (nI 8)).bind _ = _
      rw [ks_outO 8 h]
      rfl
  · have hin := nI_in (c := k) (N := 8) hk (by decide)
    have hin' : ¬ (nI k < 0 ∨ 8 ≤ k) := fun h => h.elim (nI_pos (by omega)) (by omega)
    have hcl : (nI k).toNatClampNeg = k := nI_clamp (by omega)
    simp only [(ks_reqF hk).1, (ks_reqF hk).2, show f_R_out (nI k) 8 = some 0 from ks_outI 8 hk (by decide), Option.bind_some, if_neg hin, if_neg hin', hcl, Option.elim, if_neg ko_0]
    rw [if_pos trivial]
    refine ⟨0, _, _, rfl, rfl, fun _ => ?_⟩
    rw [ko_up]
    unfold kwh
    rw [Int32.add_sub_cancel]
theorem ko_wear (er : Nat → Int32) (ou : Nat → Int64) (th a : Int32) : ∃ c rv ou', f_L_wear er ou a = some (c, ou') ∧ f_R_wear er th a = some (rv, c) ∧ (c = 0 → ou' (0 : Int32).toNatClampNeg = rv.toInt64) := by
  unfold f_L_wear f_R_wear x_F_wear f_F_wear f_M_erasuresOf f_R_wear_J27 f_R_fail
  rcases ks_range a (n := 4) (by decide) with h | ⟨k, hk, rfl⟩
  · refine ⟨1, 0, ou, ?_, ?_, fun h => absurd h (by decide)⟩
    · rw [(ks_reqBX h).1]
      rfl
    · show (f_R_out a (nI 4)).bind _ = _
      rw [ks_outO 4 h]
      rfl
  · have hin := nI_in (c := k) (N := 4) hk (by decide)
    have hin' : ¬ (nI k < 0 ∨ 4 ≤ k) := fun h => h.elim (nI_pos (by omega)) (by omega)
    have hcl : (nI k).toNatClampNeg = k := nI_clamp (by omega)
    simp only [(ks_reqB hk).1, (ks_reqB hk).2.1, show f_R_out (nI k) 4 = some 0 from ks_outI 4 hk (by decide), Option.bind_some, if_neg hin, if_neg hin', hcl, Option.elim, if_neg ko_0]
    rw [if_pos trivial]
    exact ⟨0, _, _, rfl, rfl, fun _ => ko_up _ _⟩
theorem ks_page1 {a b : Nat} (ha : a < 4) (hb : b < 4) : f_R_isPage (nI a) (nI b) = some 1 := by
  unfold f_R_isPage
  rw [show f_R_out (nI a) 4 = some 0 from ks_outI 4 ha (by decide), show f_R_out (nI b) 4 = some 0 from ks_outI 4 hb (by decide)]
  rfl
theorem ks_page0 {a b : Int32} (h : (a < 0 ∨ nI 4 ≤ a) ∨ (b < 0 ∨ nI 4 ≤ b)) : f_R_isPage a b = some 0 := by
  unfold f_R_isPage
  show (f_R_out a (nI 4)).bind _ = _
  rcases ks_range a (n := 4) (by decide) with h1 | ⟨j, hj, rfl⟩
  · rw [ks_outO 4 h1]
    rfl
  · rw [ks_outI 4 hj (by decide), Option.bind_some, if_pos rfl]
    show (f_R_out b (nI 4)).bind _ = _
    rcases h with h | h
    · exfalso
      rcases h with h | h
      · exact nI_pos (by omega) h
      · exact nI_ge hj (by decide) h
    · rw [ks_outO 4 h]
      rfl
theorem ko_state (st : Nat → Int32) (ou : Nat → Int64) (th a b : Int32) : ∃ c rv ou', f_L_state st ou a b = some (c, ou') ∧ f_R_state st th a b = some (rv, c) ∧ (c = 0 → ou' (0 : Int32).toNatClampNeg = rv.toInt64) := by
  unfold f_L_state f_R_state x_F_state f_F_state f_F_placeOf f_R_state_J31 f_R_fail
  rcases ks_range a (n := 4) (by decide) with h | ⟨k, hk, rfl⟩
  · refine ⟨1, 0, ou, ?_, ?_, fun h => absurd h (by decide)⟩
    · rw [(ks_reqBX h).1]
      rfl
    · rw [ks_page0 (Or.inl h)]
      rfl
  · rcases ks_range b (n := 4) (by decide) with h | ⟨j, hj, rfl⟩
    · refine ⟨1, 0, ou, ?_, ?_, fun h => absurd h (by decide)⟩
      · simp only [(ks_reqB hk).1, (ks_reqB hk).2.1, (ks_reqBX h).2, Option.elim, Option.bind_some]
        rfl
      · rw [ks_page0 (Or.inr h)]
        rfl
    · have hin := nI_in (c := 4 * k + j) (N := 16) (by omega) (by decide)
      have hin' : ¬ (nI (4 * k + j) < 0 ∨ 16 ≤ 4 * k + j) := fun h => h.elim (nI_pos (by omega)) (by omega)
      have hcl : (nI (4 * k + j)).toNatClampNeg = 4 * k + j := nI_clamp (by omega)
      simp only [(ks_reqB hk).1, (ks_reqB hk).2.1, (ks_reqB hj).2.2.1, (ks_reqB hj).2.2.2, ks_page1 hk hj, ks_idx, ks_idx', Option.bind_some, if_neg hin, if_neg hin', hcl, Option.elim, if_neg ko_0]
      rw [if_neg (show ¬ (1 : Int32) = 0 by decide)]
      exact ⟨0, _, _, rfl, rfl, fun _ => ko_up _ _⟩
/-- a word's name, in both -/
theorem ks_rw (a b d : Int32) : (x_F_requireWord a b d = some 0 ∧ ((∃ r, f_R_isPage a b = some r ∧ r = 0) ∨ (f_R_isPage a b = some 1 ∧ f_R_out d 5 = some 1))) ∨ ∃ i j w, i < 4 ∧ j < 4 ∧ w < 5 ∧ a = nI i ∧ b = nI j ∧ d = nI w ∧ x_F_requireWord a b d = none ∧ f_F_requireWord a b d = some () ∧ f_R_isPage a b = some 1 ∧ f_R_out d 5 = some 0 := by
  unfold x_F_requireWord f_F_requireWord x_F_requireWord_J17
  rcases ks_range a (n := 4) (by decide) with h | ⟨i, hi, rfl⟩
  · refine Or.inl ⟨?_, Or.inl ⟨0, ks_page0 (Or.inl h), rfl⟩⟩
    rw [(ks_reqBX h).1]
    rfl
  · rcases ks_range b (n := 4) (by decide) with h | ⟨j, hj, rfl⟩
    · refine Or.inl ⟨?_, Or.inl ⟨0, ks_page0 (Or.inr h), rfl⟩⟩
      simp only [(ks_reqB hi).1, (ks_reqB hi).2.1, (ks_reqBX h).2, Option.elim, Option.bind_some]
    · simp only [(ks_reqB hi).1, (ks_reqB hi).2.1, (ks_reqB hj).2.2.1, (ks_reqB hj).2.2.2, Option.elim, Option.bind_some, ks_page1 hi hj]
      rcases ks_range d (n := 5) (by decide) with h | ⟨w, hw, rfl⟩
      · refine Or.inl ⟨?_, Or.inr ⟨trivial, ks_outO 5 h⟩⟩
        by_cases h0 : d < 0
        · rw [if_pos h0]
        · rw [if_neg h0, if_neg (show ¬ d < (5 : Int32) from fun e => (ks_nle.mpr e) (h.elim (fun e => absurd e h0) id))]
      · have h1 : ¬ nI w < 0 := nI_pos (by omega)
        have h2 : nI w < (5 : Int32) := nI_lt (b := 5) hw (by decide)
        simp only [if_neg h1, if_pos h2]
        exact Or.inr ⟨i, j, w, hi, hj, hw, rfl, rfl, rfl, trivial, trivial, trivial, ks_outI 5 hw (by decide)⟩
theorem ko_flash (wd : Nat → Int32) (ou : Nat → Int64) (th a b d : Int32) : ∃ c rv ou', f_L_flash wd ou a b d = some (c, ou') ∧ f_R_flash wd th a b d = some (rv, c) ∧ (c = 0 → ou' (0 : Int32).toNatClampNeg = rv.toInt64) := by
  unfold f_L_flash f_R_flash x_F_flash f_F_flash f_F_placeOf f_R_flash_J43 f_R_flash_J38 f_R_fail
  rcases ks_rw a b d with ⟨h1, h2⟩ | ⟨i, j, w, hi, hj, hw, rfl, rfl, rfl, h1, h2, h3, h4⟩
  · refine ⟨1, 0, ou, ?_, ?_, fun h => absurd h (by decide)⟩
    · rw [h1]
      rfl
    · rcases h2 with ⟨r, h2, rfl⟩ | ⟨h2, h3⟩
      · rw [h2]
        rfl
      · rw [h2, Option.bind_some, if_neg (by decide), h3]
        rfl
  · have hin := nI_in (c := 5 * (4 * i + j) + w) (N := 80) (by omega) (by decide)
    have hin' : ¬ (nI (5 * (4 * i + j) + w) < 0 ∨ 80 ≤ 5 * (4 * i + j) + w) := fun h => h.elim (nI_pos (by omega)) (by omega)
    have hcl : (nI (5 * (4 * i + j) + w)).toNatClampNeg = 5 * (4 * i + j) + w := nI_clamp (by omega)
    simp only [h1, h2, h3, h4, ks_idx, ks_idx', kp_word wd (show 4 * i + j < 16 by omega) hw, kp_idx', Option.bind_some, if_neg hin, if_neg hin', hcl, Option.elim, if_neg ko_0]
    rw [if_neg (show ¬ (1 : Int32) = 0 by decide), if_pos trivial]
    exact ⟨0, _, _, rfl, rfl, fun _ => ko_up _ _⟩
theorem ko_spoil {wd : Nat → Int32} (hW : kWd wd) (th a b d z : Int32) : ∃ c wd', f_L_spoil wd a b d z = some (c, wd') ∧ f_R_spoil wd th a b d z = some (wd', c) ∧ kWd wd' := by
  unfold f_L_spoil f_R_spoil x_F_spoil f_F_spoil f_F_placeOf f_R_spoil_J26 f_R_spoil_J27 f_R_spoil_J65 f_M_turnOver
  rcases ks_rw a b d with ⟨h1, h2⟩ | ⟨i, j, w, hi, hj, hw, rfl, rfl, rfl, h1, h2, h3, h4⟩
  · refine ⟨1, wd, ?_, ?_, hW⟩
    · rw [h1]
      rfl
    · rcases h2 with ⟨r, h2, rfl⟩ | ⟨h2, h3⟩
      · rw [h2]
        rfl
      · rw [h2, Option.bind_some, if_neg (by decide), h3]
        rfl
  · have hin := nI_in (c := 5 * (4 * i + j) + w) (N := 80) (by omega) (by decide)
    have hin' : ¬ (nI (5 * (4 * i + j) + w) < 0 ∨ 80 ≤ 5 * (4 * i + j) + w) := fun h => h.elim (nI_pos (by omega)) (by omega)
    have hcl : (nI (5 * (4 * i + j) + w)).toNatClampNeg = 5 * (4 * i + j) + w := nI_clamp (by omega)
    simp only [h1, h2, h3, h4, ks_idx, ks_idx', kp_idx, kp_idx', Option.bind_some, if_neg hin, if_neg hin', hcl, Option.elim]
    rw [if_neg (show ¬ (1 : Int32) = 0 by decide), if_pos trivial]
    by_cases hz : 0 ≤ z
    · have hz' : ¬ z < 0 := fun e => (ks_nle.mpr e) hz
      obtain ⟨y, hy, rfl⟩ := nI_of hz'
      rw [if_pos hz, if_pos hz, if_neg hz']
      refine ⟨0, _, rfl, rfl, ?_⟩
      intro q hq
      by_cases e : q = 5 * (4 * i + j) + w
      · obtain ⟨v, hv, e2⟩ := hW q hq
        refine ⟨v ^^^ y, Nat.xor_lt_two_pow hv hy, ?_⟩
        rw [← e, pk_us, e2, kn_xor]
      · rw [pk_un e]
        exact hW q hq
    · have hz' : z < 0 := ks_nle.mp hz
      rw [if_neg hz, if_pos hz']
      exact ⟨1, wd, rfl, rfl, hW⟩
