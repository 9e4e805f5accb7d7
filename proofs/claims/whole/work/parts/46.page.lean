/-! Pages: what a page says, what a page is given. -/
/-- the words are words of 31 bits -/
def kWd (wd : Nat → Int32) : Prop := ∀ j, j < 80 → ∃ w, w < 2 ^ 31 ∧ wd j = nI w
def kG (wd : Nat → Int32) (j : Nat) : Option Nat := kE (wd j).toNatClampNeg
theorem kp_mend {wd : Nat → Int32} (h : kWd wd) {j : Nat} (hj : j < 80) : f_C_mend (wd j) = some (kvm (kG wd j)) := by
  obtain ⟨w, hw, e⟩ := h j hj
  unfold kG
  rw [e, nI_clamp hw]
  exact kn_mend hw
theorem kp_data {wd : Nat → Int32} (h : kWd wd) {rm : Nat → Int32} (hr : kR rm) (wr : Int32) {j : Nat} (hj : j < 80) : f_R_dataOf rm wr (wd j) = some (kvd (wd j).toNatClampNeg (kG wd j)) := by
  obtain ⟨w, hw, e⟩ := h j hj
  unfold kG
  rw [e, nI_clamp hw]
  exact kn_data hr wr hw
theorem kp_lt {wd : Nat → Int32} (h : kWd wd) {j c : Nat} (hj : j < 80) (hc : kG wd j = some c) : c < 2 ^ 31 := by
  obtain ⟨w, hw, e⟩ := h j hj
  unfold kG at hc
  rw [e, nI_clamp hw] at hc
  exact (kE_some hw hc).1
theorem kp_dataC {c : Nat} (h : c < 2 ^ 31) : f_C_dataOf (nI c) = some (nI (c / 2 ^ 15)) := by
  unfold f_C_dataOf
  rw [show ((nI c).toUInt32 >>> ((15 : Int32).toUInt32 &&& Int32.toUInt32 31)).toInt32 = nI (c / 2 ^ 15) from kn_ushr (by omega) (k := 15) (by decide)]
theorem kp_idx (p w : Nat) : nI p * (5 : Int32) + nI w = nI (5 * p + w) := by
  rw [show nI p * (5 : Int32) = nI (p * 5) from pk_mul p 5, nI_add, Nat.mul_comm]
theorem kp_idx' (p w : Nat) : (5 : Int32) * nI p + nI w = nI (5 * p + w) := by
  rw [show (5 : Int32) * nI p = nI (5 * p) from pk_mul 5 p, nI_add]
theorem kp_word (wd : Nat → Int32) {p w : Nat} (hp : p < 16) (hw : w < 5) : f_M_wordAt wd (nI p) (nI w) = some (wd (5 * p + w)) := by
  unfold f_M_wordAt
  rw [kp_idx, if_neg (nI_in (by omega) (by decide)), nI_clamp (by omega)]
/-- word w of page p can be read -/
abbrev kY (wd : Nat → Int32) (p w : Nat) : Prop := (kG wd (5 * p + w)).isSome = true
abbrev kRd (wd : Nat → Int32) (p : Nat) : Prop := kY wd p 0 ∧ kY wd p 1 ∧ kY wd p 2 ∧ kY wd p 3
theorem kvm_m1 {wd : Nat → Int32} (h : kWd wd) {j : Nat} (hj : j < 80) : kvm (kG wd j) = (-1 : Int32) ↔ ¬ (kG wd j).isSome = true := by
  cases hc : kG wd j with
  | none => exact ⟨fun _ e => (by cases e), fun _ => rfl⟩
  | some c => exact ⟨fun e => absurd e (kn_neg1 (kp_lt h hj hc)), fun e => absurd rfl e⟩
theorem kp_readF {wd : Nat → Int32} (h : kWd wd) {p : Nat} (hp : p < 16) : f_M_isReadable wd (nI p) = some (kB (kRd wd p)) := by
  have step : ∀ (n w : Nat), w < 4 → f_M_isReadable_H (n + 1) wd (nI p) (nI w) = if kY wd p w then f_M_isReadable_H n wd (nI p) (nI (w + 1)) else some 0 := by
    intro n w hw
    simp only [f_M_isReadable_H]
    rw [if_neg (show ¬ (4 : Int32) ≤ nI w from nI_ge (b := 4) hw (by decide)), kp_word wd hp (by omega), Option.bind_some, kp_mend h (by omega), Option.bind_some, nI_1 w]
    by_cases hy : kY wd p w
    · rw [if_neg (fun e => (kvm_m1 h (by omega)).mp e hy), if_pos hy]
    · rw [if_pos ((kvm_m1 h (by omega)).mpr hy), if_neg hy, if_neg (by decide)]
  show f_M_isReadable_H (99 + 1) wd (nI p) (nI 0) = _
  rw [step 99 0 (by decide), step 98 1 (by decide), step 97 2 (by decide), step 96 3 (by decide)]
  rw [f_M_isReadable_H, if_pos (show (4 : Int32) ≤ nI (3 + 1) by decide)]
  rw [if_neg (show ¬ ¬ ((1 : Int32) = 0 ∨ (1 : Int32) = 1) by decide)]
  exact kand4 _ _ _ _
theorem kvd_neg {wd : Nat → Int32} (h : kWd wd) {j : Nat} (hj : j < 80) (w : Nat) : (kvd w (kG wd j)).1 < 0 ↔ ¬ (kG wd j).isSome = true := by
  cases hc : kG wd j with
  | none => exact ⟨fun _ e => (by cases e), fun _ => (by decide : (-1 : Int32) < 0)⟩
  | some c =>
    have hl := kp_lt h hj hc
    exact ⟨fun e => absurd e (nI_pos (by omega)), fun e => absurd rfl e⟩
theorem kp_readR {wd : Nat → Int32} (h : kWd wd) {rm : Nat → Int32} (hr : kR rm) (wr : Int32) {p : Nat} (hp : p < 16) : ∃ wr', f_R_readable rm wd wr (nI p) = some (kB (kRd wd p), wr') := by
  have step : ∀ (n w : Nat) (wr : Int32) (c : Prop) [Decidable c], w < 4 → ∃ wr', f_R_readable_H (n + 1) rm wd wr (nI p) (kB c) (nI w) = f_R_readable_H n rm wd wr' (nI p) (kB (c ∧ kY wd p w)) (nI (w + 1)) := by
    intro n w wr c _ hw
    simp only [f_R_readable_H, f_R_readable_J34, f_R_readable_J35]
    rw [if_neg (show ¬ (4 : Int32) ≤ nI w from nI_ge (b := 4) hw (by decide)), nI_1 w]
    by_cases hc : c
    · rw [if_neg (by rw [kB_t hc]; decide), kp_idx', if_neg (nI_in (by omega) (by decide)), nI_clamp (by omega), kp_data h hr wr (by omega), Option.bind_some]
      by_cases hy : kY wd p w
      · refine ⟨(kvd (wd (5 * p + w)).toNatClampNeg (kG wd (5 * p + w))).2, ?_⟩
        show (if (kvd (wd (5 * p + w)).toNatClampNeg (kG wd (5 * p + w))).1 < 0 then _ else _) = _
        rw [if_neg (fun e => (kvd_neg h (by omega) _).mp e hy), kB_t ⟨hc, hy⟩]
      · refine ⟨(kvd (wd (5 * p + w)).toNatClampNeg (kG wd (5 * p + w))).2, ?_⟩
        show (if (kvd (wd (5 * p + w)).toNatClampNeg (kG wd (5 * p + w))).1 < 0 then _ else _) = _
        rw [if_pos ((kvd_neg h (by omega) _).mpr hy), kB_f (fun e => hy e.2)]
    · exact ⟨wr, by rw [if_pos (kB_f hc), kB_f (fun e => hc e.1)]⟩
  obtain ⟨w1, e1⟩ := step 99 0 wr True (by decide)
  obtain ⟨w2, e2⟩ := step 98 1 w1 (True ∧ kY wd p 0) (by decide)
  obtain ⟨w3, e3⟩ := step 97 2 w2 ((True ∧ kY wd p 0) ∧ kY wd p 1) (by decide)
  obtain ⟨w4, e4⟩ := step 96 3 w3 (((True ∧ kY wd p 0) ∧ kY wd p 1) ∧ kY wd p 2) (by decide)
  refine ⟨w4, ?_⟩
  show f_R_readable_H (99 + 1) rm wd wr (nI p) (kB True) (nI 0) = _
  rw [e1]
  show f_R_readable_H (98 + 1) rm wd w1 (nI p) _ (nI 1) = _
  rw [e2]
  show f_R_readable_H (97 + 1) rm wd w2 (nI p) _ (nI 2) = _
  rw [e3]
  show f_R_readable_H (96 + 1) rm wd w3 (nI p) _ (nI 3) = _
  rw [e4]
  show f_R_readable_H (95 + 1) rm wd w4 (nI p) _ (nI 4) = _
  rw [f_R_readable_H, if_pos (show (4 : Int32) ≤ nI 4 by decide), if_neg (fun h => h (kB_or _))]
  have : kB ((((True ∧ kY wd p 0) ∧ kY wd p 1) ∧ kY wd p 2) ∧ kY wd p 3) = kB (kRd wd p) := by
    exact kB_iff (by simp only [true_and, and_assoc])
  rw [this]
/-! The content. -/
theorem kl_shl (a s : Int64) (k : Nat) (hs : (s.toBitVec.smod 64).toNat = k) : (a <<< s).toBitVec = a.toBitVec <<< k := by
  show a.toBitVec <<< (s.toBitVec.smod 64) = _
  rw [BitVec.shiftLeft_eq', hs]
theorem kl_cat (x0 x1 x2 x3 s s0 s1 s2 s3 : Int64) (hs : (s.toBitVec.smod 64).toNat = 16) (h0 : (s0.toBitVec.smod 64).toNat = 0) (h1 : (s1.toBitVec.smod 64).toNat = 16) (h2 : (s2.toBitVec.smod 64).toNat = 32) (h3 : (s3.toBitVec.smod 64).toNat = 48) :
    ((((0 <<< s ||| x3) <<< s ||| x2) <<< s ||| x1) <<< s ||| x0) = (0 ||| (x0 <<< s0) ||| (x1 <<< s1) ||| (x2 <<< s2) ||| (x3 <<< s3)) := by
  apply Int64.toBitVec_inj.1
  have a1 : ∀ x : BitVec 64, x <<< 32 = x <<< 16 <<< 16 := fun x => BitVec.shiftLeft_add x 16 16
  have a2 : ∀ x : BitVec 64, x <<< 48 = x <<< 16 <<< 16 <<< 16 := fun x => by rw [show 48 = 16 + 16 + 16 from rfl, BitVec.shiftLeft_add, BitVec.shiftLeft_add]
  simp only [Int64.toBitVec_or, kl_shl _ s 16 hs, kl_shl _ s0 0 h0, kl_shl _ s1 16 h1, kl_shl _ s2 32 h2, kl_shl _ s3 48 h3, BitVec.shiftLeft_or_distrib, show ((0 : Int64).toBitVec) = 0#64 from rfl, BitVec.zero_shiftLeft, BitVec.zero_or, BitVec.shiftLeft_zero, a1, a2]
  generalize x0.toBitVec = y0
  generalize x1.toBitVec <<< 16 = y1
  generalize x2.toBitVec <<< 16 <<< 16 = y2
  generalize x3.toBitVec <<< 16 <<< 16 <<< 16 = y3
  rw [BitVec.or_comm _ y0, BitVec.or_comm _ y1, BitVec.or_comm y3 y2, BitVec.or_assoc, BitVec.or_assoc]
theorem kl_amt : ((((16 : Int32).toInt64 &&& 63 : Int64)).toBitVec.smod 64).toNat = 16 ∧ (((nI 0 * 16).toInt64 &&& 63 : Int64).toBitVec.smod 64).toNat = 0 ∧ (((nI 1 * 16).toInt64 &&& 63 : Int64).toBitVec.smod 64).toNat = 16 ∧ (((nI 2 * 16).toInt64 &&& 63 : Int64).toBitVec.smod 64).toNat = 32 ∧ (((nI 3 * 16).toInt64 &&& 63 : Int64).toBitVec.smod 64).toNat = 48 := by decide +kernel
/-- what a word of the page says -/
def kx (wd : Nat → Int32) (p w : Nat) : Int64 := (nI ((kG wd (5 * p + w)).getD 0 / 2 ^ 15)).toInt64
def kct (wd : Nat → Int32) (p : Nat) : Int64 := 0 ||| (kx wd p 0 <<< ((nI 0 * 16).toInt64 &&& 63)) ||| (kx wd p 1 <<< ((nI 1 * 16).toInt64 &&& 63)) ||| (kx wd p 2 <<< ((nI 2 * 16).toInt64 &&& 63)) ||| (kx wd p 3 <<< ((nI 3 * 16).toInt64 &&& 63))
theorem kp_some {wd : Nat → Int32} {p w : Nat} (h : kY wd p w) : ∃ c, kG wd (5 * p + w) = some c := Option.isSome_iff_exists.mp h
theorem kp_contF {wd : Nat → Int32} (h : kWd wd) {p : Nat} (hp : p < 16) (hr : kRd wd p) : f_M_contentAt wd (nI p) = some (kct wd p) := by
  have step : ∀ (n w : Nat) (v : Int64), w < 4 → kY wd p w → f_M_contentAt_H (n + 1) wd (nI p) v (nI w) = f_M_contentAt_H n wd (nI p) (v ||| (kx wd p w <<< ((nI w * 16).toInt64 &&& 63))) (nI (w + 1)) := by
    intro n w v hw hy
    obtain ⟨c, hc⟩ := kp_some hy
    simp only [f_M_contentAt_H]
    rw [if_neg (show ¬ (4 : Int32) ≤ nI w from nI_ge (b := 4) hw (by decide)), kp_word wd hp (by omega), Option.bind_some, kp_mend h (by omega), Option.bind_some, nI_1 w]
    unfold kx
    rw [hc]
    show (f_C_dataOf (nI c)).bind _ = _
    rw [kp_dataC (kp_lt h (by omega) hc), Option.bind_some]
    rfl
  show f_M_contentAt_H (99 + 1) wd (nI p) 0 (nI 0) = _
  rw [step 99 0 _ (by decide) hr.1, step 98 1 _ (by decide) hr.2.1, step 97 2 _ (by decide) hr.2.2.1, step 96 3 _ (by decide) hr.2.2.2]
  rw [f_M_contentAt_H, if_pos (show (4 : Int32) ≤ nI (3 + 1) by decide)]
  rfl
theorem kp_contR {wd : Nat → Int32} (h : kWd wd) {rm : Nat → Int32} (hr : kR rm) (wr : Int32) {p : Nat} (hp : p < 16) (hrd : kRd wd p) : ∃ wr', f_R_contentOf rm wd wr (nI p) = some (kct wd p, wr') := by
  have step : ∀ (n w : Nat) (wr : Int32) (v : Int64), w < 4 → kY wd p w → ∃ wr', f_R_contentOf_H (n + 1) rm wd wr (nI p) v (nI w) = f_R_contentOf_H n rm wd wr' (nI p) ((v <<< ((16 : Int32).toInt64 &&& 63)) ||| kx wd p w) (nI w + (-1)) := by
    intro n w wr v hw hy
    obtain ⟨c, hc⟩ := kp_some hy
    refine ⟨(kvd (wd (5 * p + w)).toNatClampNeg (kG wd (5 * p + w))).2, ?_⟩
    simp only [f_R_contentOf_H]
    rw [if_neg (nI_pos (by omega)), kp_idx', if_neg (nI_in (by omega) (by decide)), nI_clamp (by omega), kp_data h hr wr (by omega), Option.bind_some]
    unfold kx
    rw [hc]
    rfl
  obtain ⟨w1, e1⟩ := step 99 3 wr 0 (by decide) hrd.2.2.2
  obtain ⟨w2, e2⟩ := step 98 2 w1 _ (by decide) hrd.2.2.1
  obtain ⟨w3, e3⟩ := step 97 1 w2 _ (by decide) hrd.2.1
  obtain ⟨w4, e4⟩ := step 96 0 w3 _ (by decide) hrd.1
  refine ⟨w4, ?_⟩
  show f_R_contentOf_H (99 + 1) rm wd wr (nI p) 0 (nI 3) = _
  rw [e1, show nI 3 + (-1) = nI 2 by decide]
  show f_R_contentOf_H (98 + 1) rm wd w1 (nI p) _ (nI 2) = _
  rw [e2, show nI 2 + (-1) = nI 1 by decide]
  show f_R_contentOf_H (97 + 1) rm wd w2 (nI p) _ (nI 1) = _
  rw [e3, show nI 1 + (-1) = nI 0 by decide]
  show f_R_contentOf_H (96 + 1) rm wd w3 (nI p) _ (nI 0) = _
  rw [e4]
  show f_R_contentOf_H (95 + 1) rm wd w4 (nI p) _ _ = _
  rw [f_R_contentOf_H, if_pos (show nI 0 + (-1) < 0 by decide)]
  refine congrArg some (Prod.ext ?_ rfl)
  exact kl_cat _ _ _ _ _ _ _ _ _ kl_amt.1 kl_amt.2.1 kl_amt.2.2.1 kl_amt.2.2.2.1 kl_amt.2.2.2.2
/-! A page is given. -/
/-- the data of word w -/
def kd (v : Int64) (w : Nat) : Nat := (v.toBitVec.toNat >>> (16 * w)) % 2 ^ 16
theorem kd_lt (v : Int64) (w : Nat) : kd v w < 65536 := Nat.mod_lt _ (by decide)
theorem kd_amU : ∀ w, w < 4 → (((nI w * 16).toInt64.toUInt64 &&& Int64.toUInt64 63).toBitVec % 64).toNat = 16 * w := by decide +kernel
theorem kd_am : ∀ w, w < 4 → ((((16 : Int32) * nI w).toInt64 &&& 63).toBitVec.smod 64).toNat = 16 * w := by decide +kernel
theorem kd_F (v : Int64) {w : Nat} (hw : w < 4) : ((v.toUInt64 >>> ((nI w * (16 : Int32)).toInt64.toUInt64 &&& Int64.toUInt64 63)).toInt64.toInt32 &&& (65535 : Int32)) = nI (kd v w) := by
  rw [pk_and _ 16 (by decide +kernel)]
  have e : (v.toUInt64 >>> ((nI w * (16 : Int32)).toInt64.toUInt64 &&& Int64.toUInt64 63)).toInt64.toInt32.toBitVec = (v.toBitVec >>> (16 * w)).setWidth 32 := by
    show (v.toBitVec >>> (((nI w * (16 : Int32)).toInt64.toUInt64 &&& Int64.toUInt64 63).toBitVec % 64)).signExtend 32 = _
    rw [BitVec.signExtend_eq_setWidth_of_le _ (by decide), BitVec.ushiftRight_eq', kd_amU w hw]
  rw [e]
  unfold kd
  rw [BitVec.toNat_setWidth, BitVec.toNat_ushiftRight, Nat.mod_mod_of_dvd _ (by decide : 2 ^ 16 ∣ 2 ^ 32)]
theorem kd_R (v : Int64) {w : Nat} (hw : w < 4) : ((v >>> (((16 : Int32) * nI w).toInt64 &&& 63)) &&& (65535 : Int64)).toInt32 = nI (kd v w) := by
  apply Int32.toBitVec_inj.1
  have e : ((v >>> (((16 : Int32) * nI w).toInt64 &&& 63)) &&& (65535 : Int64)).toInt32.toBitVec = ((v.toBitVec.sshiftRight (16 * w)) &&& 65535#64).setWidth 32 := by
    show ((v.toBitVec.sshiftRight' ((((16 : Int32) * nI w).toInt64 &&& 63).toBitVec.smod 64)) &&& 65535#64).signExtend 32 = _
    rw [BitVec.signExtend_eq_setWidth_of_le _ (by decide), BitVec.sshiftRight_eq', kd_am w hw]
  rw [e]
  show _ = BitVec.ofNat 32 (kd v w)
  apply BitVec.eq_of_getLsbD_eq
  intro i hi
  rw [BitVec.getLsbD_setWidth, BitVec.getLsbD_and, BitVec.getLsbD_ofNat, BitVec.getLsbD_ofNat, BitVec.getLsbD_sshiftRight]
  unfold kd
  rw [Nat.testBit_mod_two_pow, Nat.testBit_shiftRight, show (65535 : Nat) = 2 ^ 16 - 1 by decide, Nat.testBit_two_pow_sub_one]
  by_cases h16 : i < 16
  · have h1 : i < 64 := by omega
    have h2 : ¬ 64 ≤ i := by omega
    have h3 : 16 * w + i < 64 := by omega
    simp only [hi, h1, h2, h3, h16, decide_true, decide_false, Bool.not_false, Bool.true_and, Bool.and_true, if_true]
    rfl
  · simp [h16]
/-- word j, given the word of the code for d -/
def kpg (wd : Nat → Int32) (j d : Nat) : Nat → Int32 := upd wd j (wd j &&& nI (kc_w d))
theorem kpg_wd {wd : Nat → Int32} (h : kWd wd) {j d : Nat} (hj : j < 80) (hd : d < 65536) : kWd (kpg wd j d) := by
  intro i hi
  unfold kpg
  by_cases e : i = j
  · obtain ⟨w, hw, e2⟩ := h j hj
    refine ⟨w &&& kc_w d, Nat.lt_of_le_of_lt Nat.and_le_left hw, ?_⟩
    rw [e, pk_us, e2, kn_and]
  · rw [pk_un e]
    exact h i hi
/-- page p, given content v and tag t -/
def kpr (wd : Nat → Int32) (p : Nat) (v : Int64) (t : Nat) : Nat → Int32 := kpg (kpg (kpg (kpg (kpg wd (5 * p + 0) (kd v 0)) (5 * p + 1) (kd v 1)) (5 * p + 2) (kd v 2)) (5 * p + 3) (kd v 3)) (5 * p + 4) t
theorem kpr_wd {wd : Nat → Int32} (h : kWd wd) {p : Nat} (hp : p < 16) (v : Int64) {t : Nat} (ht : t < 65536) : kWd (kpr wd p v t) := by
  unfold kpr
  exact kpg_wd (kpg_wd (kpg_wd (kpg_wd (kpg_wd h (by omega) (kd_lt _ _)) (by omega) (kd_lt _ _)) (by omega) (kd_lt _ _)) (by omega) (kd_lt _ _)) (by omega) ht
theorem kp_progF (wd : Nat → Int32) {p : Nat} (hp : p < 16) (v : Int64) {t : Nat} (ht : t < 65536) : f_M_program wd (nI p) v (nI t) = some (kpr wd p v t) := by
  have step : ∀ (n w : Nat) (wd : Nat → Int32), w < 4 → f_M_program_H (n + 1) wd v (nI t) (nI (5 * p)) (nI w) = f_M_program_H n (kpg wd (5 * p + w) (kd v w)) v (nI t) (nI (5 * p)) (nI (w + 1)) := by
    intro n w wd hw
    simp only [f_M_program_H]
    rw [if_neg (show ¬ (4 : Int32) ≤ nI w from nI_ge (b := 4) hw (by decide)), nI_add, if_neg (nI_in (by omega) (by decide)), nI_clamp (by omega), kd_F v hw, kn_cw (kd_lt v w), Option.bind_some, nI_1 w]
    rfl
  unfold f_M_program
  rw [show nI p * (5 : Int32) = nI (5 * p) by rw [show nI p * (5 : Int32) = nI (p * 5) from pk_mul p 5, Nat.mul_comm]]
  show f_M_program_H (99 + 1) wd v (nI t) (nI (5 * p)) (nI 0) = _
  rw [step 99 0 _ (by decide), step 98 1 _ (by decide), step 97 2 _ (by decide), step 96 3 _ (by decide)]
  rw [f_M_program_H, if_pos (show (4 : Int32) ≤ nI (3 + 1) by decide), show nI (5 * p) + (4 : Int32) = nI (5 * p + 4) from nI_add _ 4, if_neg (nI_in (by omega) (by decide)), nI_clamp (by omega), kn_cw ht, Option.bind_some]
  rfl
theorem kp_prg (wd : Nat → Int32) {rm : Nat → Int32} (hr : kR rm) {p w d : Nat} (hp : p < 16) (hw : w < 5) (hd : d < 65536) : f_R_program rm wd (nI p) (nI w) (nI d) = some (kpg wd (5 * p + w) d) := by
  unfold f_R_program
  rw [kp_idx', if_neg (nI_in (by omega) (by decide)), nI_clamp (by omega), kn_cwR hr hd, Option.bind_some]
  rfl
