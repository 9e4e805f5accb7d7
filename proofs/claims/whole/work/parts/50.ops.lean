/-! The calls, in both. -/
theorem kus_eq {st pl lg : Nat → Int32} (h : kI st pl lg) {k r : Nat} (hk : k < 8) (h0 : st r = 0) : kus st pl k r = upd (kfs st pl k) r 1 := funext (fun q => kus_at h hk h0 rfl)
theorem ks_wput {rm : Nat → Int32} (hrm : kR rm) {st pl wd lg : Nat → Int32} {x k : Nat} (hI : kI st pl lg) (hw : kWd wd) (hx : x < 4095) (hk : k < 8) (hL : kLv st) (se er : Nat → Int32) (wr : Int32) (v : Int64) (n m : Nat) {i : Nat} (hi : i < 16) :
    ∃ st' pl' wd' lg' se' x', f_F_write_H (n + 1) st pl wd er (nI x) (nI k) v (nI i) = some (st', pl', wd', er, nI x') ∧ f_R_write_H (m + 1) rm wd st lg se er (kwh pl) 0 (nI x) wr (nI k) v = some (wd', st', lg', se', er, kwh pl', 0, nI x', wr) ∧ kI st' pl' lg' ∧ kWd wd' ∧ x' < 4095 := by
  rcases ks_lv st with ⟨-, p, hp, h0, e1, e2, e3, e4⟩ | ⟨hn, -⟩
  · simp only [f_F_write_H, f_R_write_H, f_F_write_J55, f_R_write_J65, f_R_write_J83]
    rw [if_neg (show ¬ (16 : Int32) ≤ nI i from nI_ge (b := 16) hi (by decide)), e2, Option.bind_some, if_neg (show ¬ (1 : Int32) = 0 by decide), ks_putF hI hk hp hx v e1, Option.bind_some, if_pos trivial, if_pos trivial, e3, Option.bind_some, e4, Option.bind_some, if_neg (show ¬ (1 : Int32) = 0 by decide), Option.bind_some, ks_putR hrm hI hk hp hx, Option.bind_some, kus_eq hI hk h0]
    exact ⟨_, _, _, _, _, _, rfl, rfl, kI_put hI hk hp h0, kpr_wd hw hp v (by omega), kNx_lt hx⟩
  · exact absurd hL hn
theorem ks_wstep {rm : Nat → Int32} (hrm : kR rm) {st pl wd lg : Nat → Int32} {x : Nat} (hI : kI st pl lg) (hw : kWd wd) (hx : x < 4095) (hL : ¬ kLv st) (se er : Nat → Int32) {c : Nat} (hT : kT st er = some c) (wr a1 : Int32) (v : Int64) (n m : Nat) {i : Nat} (hi : i < 16) :
    ∃ st' pl' wd' er' lg' se' x' wr', f_F_write_H (n + 1) st pl wd er (nI x) a1 v (nI i) = f_F_write_H n st' pl' wd' er' (nI x') a1 v (nI (i + 1)) ∧ f_R_write_H (m + 1) rm wd st lg se er (kwh pl) 0 (nI x) wr a1 v = f_R_write_H m rm wd' st' lg' se' er' (kwh pl') 0 (nI x') wr' a1 v ∧ kI st' pl' lg' ∧ kWd wd' ∧ x' < 4095 ∧ kW st' c ∧ kO st c ≤ kO st' c + kN st c 1 := by
  rcases ks_lv st with ⟨hn, -⟩ | ⟨-, e2, r, e3, e4⟩
  · exact absurd hn hL
  · obtain ⟨hc, hC⟩ := kT_some hT
    obtain ⟨st', pl', wd', er', lg', se', x', wr', f1, f2, g1, g2, g3, g4, g5⟩ := ks_clean hrm hc hI hw hx hC.2.2 se er wr
    simp only [f_F_write_H, f_R_write_H, f_R_write_J62]
    rw [if_neg (show ¬ (16 : Int32) ≤ nI i from nI_ge (b := 16) hi (by decide)), e2, Option.bind_some, if_pos rfl, ks_tcF, hT, Option.bind_some, show kvo (some c) = nI c from rfl, if_neg (kn_neg1 (by omega)), f1, Option.bind_some, if_pos trivial, e3, Option.bind_some, e4, Option.bind_some, if_pos rfl, ks_tcR, hT, Option.bind_some, show kvo (some c) = nI c from rfl, if_pos (nI_pos' (by omega)), f2, Option.bind_some, nI_1 i]
    exact ⟨st', pl', wd', er', lg', se', x', wr', rfl, rfl, g1, g2, g3, g4, g5⟩
theorem ks_reqF {k : Nat} (hk : k < 8) : f_F_requireLogicalPage (nI k) = some () ∧ x_F_requireLogicalPage (nI k) = none := by
  unfold f_F_requireLogicalPage x_F_requireLogicalPage
  rw [if_neg (nI_pos (by omega)), if_neg (nI_pos (by omega)), if_pos (show nI k < (8 : Int32) from nI_lt (b := 8) hk (by decide)), if_pos (show nI k < (8 : Int32) from nI_lt (b := 8) hk (by decide))]
  exact ⟨rfl, rfl⟩
/-- in range or not, in both -/
theorem ks_outI {k : Nat} (n : Nat) (hk : k < n) (hn : n < 2 ^ 31) : f_R_out (nI k) (nI n) = some 0 := by
  unfold f_R_out f_R_out_J14
  rw [if_neg (nI_pos (by omega)), if_pos (nI_lt hk hn), if_neg (by decide)]
theorem ks_outO {a : Int32} (n : Nat) (h : a < 0 ∨ nI n ≤ a) : f_R_out a (nI n) = some 1 := by
  unfold f_R_out f_R_out_J9 f_R_out_J14
  by_cases h0 : a < 0
  · rw [if_pos h0, if_neg (by decide)]
  · rw [if_neg h0, if_neg (fun e => (ks_nle.mpr e) (h.elim (fun e => absurd e h0) id)), if_neg (by decide)]
theorem ks_reqX {a : Int32} (h : a < 0 ∨ nI 8 ≤ a) : x_F_requireLogicalPage a = some 0 := by
  unfold x_F_requireLogicalPage x_F_requireLogicalPage_J10
  by_cases h0 : a < 0
  · rw [if_pos h0]
  · rw [if_neg h0, if_neg (show ¬ a < (8 : Int32) from fun e => (ks_nle.mpr e) (h.elim (fun e => absurd e h0) id))]
theorem ks_reqB {k : Nat} (hk : k < 4) : f_F_requireBlock (nI k) = some () ∧ x_F_requireBlock (nI k) = none ∧ f_F_requirePageOfBlock (nI k) = some () ∧ x_F_requirePageOfBlock (nI k) = none := by
  unfold f_F_requireBlock x_F_requireBlock f_F_requirePageOfBlock x_F_requirePageOfBlock
  have h1 : ¬ nI k < 0 := nI_pos (by omega)
  have h2 : nI k < (4 : Int32) := nI_lt (b := 4) hk (by decide)
  simp only [if_neg h1, if_pos h2]
  exact ⟨trivial, trivial, trivial, trivial⟩
theorem ks_reqBX {a : Int32} (h : a < 0 ∨ nI 4 ≤ a) : x_F_requireBlock a = some 0 ∧ x_F_requirePageOfBlock a = some 0 := by
  unfold x_F_requireBlock x_F_requireBlock_J9 x_F_requirePageOfBlock x_F_requirePageOfBlock_J9
  by_cases h0 : a < 0
  · simp only [if_pos h0]
    exact ⟨trivial, trivial⟩
  · have h1 : ¬ a < (4 : Int32) := fun e => (ks_nle.mpr e) (h.elim (fun e => absurd e h0) id)
    simp only [if_neg h0, if_neg h1]
    exact ⟨trivial, trivial⟩
/-- a number in range, or not -/
theorem ks_range (a : Int32) {n : Nat} (hn : n < 2 ^ 31) : (a < 0 ∨ nI n ≤ a) ∨ ∃ j, j < n ∧ a = nI j := by
  rcases pk_ix a hn with h | h | h
  · exact Or.inl (Or.inl h)
  · exact Or.inl (Or.inr h)
  · exact Or.inr h
/-! write -/
theorem ks_write {rm : Nat → Int32} (hrm : kR rm) {st pl wd lg : Nat → Int32} {x k : Nat} (hI : kI st pl lg) (hw : kWd wd) (hx : x < 4095) (hk : k < 8) (se er : Nat → Int32) (wr : Int32) (v : Int64) :
    (x_F_write_H 100 st pl wd er (nI x) (nI k) v 0 = some 1 ∧ f_R_write_H 100 rm wd st lg se er (kwh pl) 0 (nI x) wr (nI k) v = some (wd, st, lg, se, er, kwh pl, 2, nI x, wr)) ∨
    (x_F_write_H 100 st pl wd er (nI x) (nI k) v 0 = none ∧ ∃ st' pl' wd' er' lg' se' x' wr', f_F_write_H 100 st pl wd er (nI x) (nI k) v 0 = some (st', pl', wd', er', nI x') ∧ f_R_write_H 100 rm wd st lg se er (kwh pl) 0 (nI x) wr (nI k) v = some (wd', st', lg', se', er', kwh pl', 0, nI x', wr') ∧ kI st' pl' lg' ∧ kWd wd' ∧ x' < 4095) := by
  have x0 : ∀ n, x_F_write_H (n + 1) st pl wd er (nI x) (nI k) v 0 = ((f_F_leavesBlockFree st).bind fun r15 => if r15 = 0 then ((f_F_blockToClean st er).bind fun r22 => if r22 = (-1 : Int32) then (some 1) else (none)) else none) := by
    intro n
    simp only [x_F_write_H, x_F_write_J55]
    rw [if_neg (show ¬ (16 : Int32) ≤ 0 by decide)]
  by_cases hL : kLv st
  · refine Or.inr ⟨?_, ?_⟩
    · show x_F_write_H (99 + 1) st pl wd er (nI x) (nI k) v 0 = none
      rw [x0]
      rcases ks_lv st with ⟨-, p, hp, h0, e1, e2, e3, e4⟩ | ⟨hn, -⟩
      · rw [e2, Option.bind_some, if_neg (by decide)]
      · exact absurd hL hn
    · obtain ⟨st', pl', wd', lg', se', x', e1, e2, g⟩ := ks_wput hrm hI hw hx hk hL se er wr v 99 99 (i := 0) (by decide)
      exact ⟨st', pl', wd', er, lg', se', x', wr, e1, e2, g⟩
  · rcases ks_lv st with ⟨hn, -⟩ | ⟨-, l1, r, l2, l3⟩
    · exact absurd hn hL
    · cases hT : kT st er with
      | none =>
        refine Or.inl ⟨?_, ?_⟩
        · show x_F_write_H (99 + 1) st pl wd er (nI x) (nI k) v 0 = some 1
          rw [x0, l1, Option.bind_some, if_pos rfl, ks_tcF, hT, Option.bind_some]
          rfl
        · have f0 : ∀ n, f_R_write_H (n + 1 + 1) rm wd st lg se er (kwh pl) 0 (nI x) wr (nI k) v = some (wd, st, lg, se, er, kwh pl, 2, nI x, wr) := by
            intro n
            rw [f_R_write_H, if_pos rfl, l2, Option.bind_some, l3, Option.bind_some, if_pos rfl, ks_tcR, hT, Option.bind_some, if_neg (show ¬ 0 ≤ kvo none by decide)]
            unfold f_R_write_J62
            rw [f_R_write_H, if_neg (by decide)]
            unfold f_R_write_J65 f_R_write_J83
            rw [if_neg (by decide)]
          exact f0 98
      | some c =>
        refine Or.inr ⟨?_, ?_⟩
        · show x_F_write_H (99 + 1) st pl wd er (nI x) (nI k) v 0 = none
          have hc := (kT_some hT).1
          rw [x0, l1, Option.bind_some, if_pos rfl, ks_tcF, hT, Option.bind_some, show kvo (some c) = nI c from rfl, if_neg (kn_neg1 (by omega))]
        · have hc := (kT_some hT).1
          obtain ⟨st1, pl1, wd1, er1, lg1, se1, x1, wr1, a1, a2, hI1, hw1, hx1, hW1, -⟩ := ks_wstep hrm hI hw hx hL se er hT wr (nI k) v 99 99 (i := 0) (by decide)
          by_cases hL1 : kLv st1
          · obtain ⟨st', pl', wd', lg', se', x', e1, e2, g⟩ := ks_wput hrm hI1 hw1 hx1 hk hL1 se1 er1 wr1 v 98 98 (i := 1) (by decide)
            exact ⟨st', pl', wd', er1, lg', se', x', wr1, a1.trans e1, a2.trans e2, g⟩
          · obtain ⟨d, hT1, hdc⟩ := kT_any hI1 hc hW1 hL1 er1
            obtain ⟨hd, hC⟩ := kT_some hT1
            obtain ⟨st2, pl2, wd2, er2, lg2, se2, x2, wr2, b1, b2, hI2, hw2, hx2, hW2, hO2⟩ := ks_wstep hrm hI1 hw1 hx1 hL1 se1 er1 hT1 wr1 (nI k) v 98 98 (i := 1) (by decide)
            have hO := kO_ge hc hW1 hdc
            have hn := hC.2.1
            have hL2 : kLv st2 := kLv_yes hd hW2 (by omega)
            obtain ⟨st', pl', wd', lg', se', x', e1, e2, g⟩ := ks_wput hrm hI2 hw2 hx2 hk hL2 se2 er2 wr2 v 97 97 (i := 2) (by decide)
            exact ⟨st', pl', wd', er2, lg', se', x', wr2, (a1.trans b1).trans e1, (a2.trans b2).trans e2, g⟩
