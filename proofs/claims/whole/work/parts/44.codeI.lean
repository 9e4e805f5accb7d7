/-! The class's and the reference's code, by numbers. -/
theorem kn_shlw (n : Nat) {k : Nat} (hk : k < 32) : nI n <<< (nI k &&& 31) = nI (n * 2 ^ k) := by
  apply Int32.toBitVec_inj.1
  apply BitVec.eq_of_toNat_eq
  rw [pk_shl _ _ k (kn_amt k hk)]
  show (n % 2 ^ 32) * 2 ^ k % 2 ^ 32 = (n * 2 ^ k) % 2 ^ 32
  rw [Nat.mod_mul_mod]
theorem kn_neg1 {x : Nat} (h : x < 2 ^ 31) : ¬ nI x = (-1 : Int32) := fun e => by
  have h1 := nI_pos h
  rw [e] at h1
  exact h1 (by decide)
theorem kn_gsh : ∀ k, k < 16 → (36783 : Int32) <<< (nI k &&& 31) = nI (36783 <<< k) ∧ 36783 <<< k < 2 ^ 31 := by decide +kernel
theorem kn_rem_H (k : Nat) (hk : k ≤ 16) : ∀ w n, w < 2 ^ 31 → k < n → f_C_remainder_H n (nI w) (nI (14 + k)) = some (nI (kc_r k w)) := by
  induction k with
  | zero =>
    intro w n hw hn
    obtain ⟨n, rfl⟩ : ∃ m, n = m + 1 := ⟨n - 1, by omega⟩
    simp only [f_C_remainder_H]
    rw [if_pos (show nI (14 + 0) < (15 : Int32) by decide)]
    rfl
  | succ k ih =>
    intro w n hw hn
    obtain ⟨n, rfl⟩ : ∃ m, n = m + 1 := ⟨n - 1, by omega⟩
    simp only [f_C_remainder_H, f_C_remainder_J29]
    rw [show 14 + (k + 1) = 15 + k by omega, if_neg (show ¬ nI (15 + k) < (15 : Int32) from nI_nlt (b := 15) (by omega) (by omega))]
    have e3 : nI (15 + k) + (-1 : Int32) = nI (14 + k) := by
      rw [show 15 + k = 14 + k + 1 by omega]
      exact pk_m1 (14 + k)
    by_cases hb : w.testBit (15 + k) = true
    · rw [if_neg (fun e => by have := (kn_band hw (by omega)).mp e; rw [hb] at this; cases this)]
      have e1 : nI (15 + k) - (15 : Int32) = nI k := by
        have := pk_sub (a := 15 + k) (b := 15) (by omega)
        rwa [show 15 + k - 15 = k by omega] at this
      rw [e1, (kn_gsh k (by omega)).1, kn_xor, e3, ih (by omega) _ n (Nat.xor_lt_two_pow hw (kn_gsh k (by omega)).2) (by omega)]
      simp only [kc_r, if_pos hb]
    · rw [if_pos ((kn_band hw (by omega)).mpr (by simpa using hb)), e3, ih (by omega) _ n hw (by omega)]
      simp only [kc_r, if_neg hb]
theorem kn_rem {w : Nat} (hw : w < 2 ^ 31) : f_C_remainder (nI w) = some (nI (kc_l 31 w)) := by
  rw [← kc_r_eq hw]
  exact kn_rem_H 16 (by decide) w 100 hw (by decide)
/-- the word of the code for d -/
def kc_w (d : Nat) : Nat := 32768 * d + kc_l 31 (32768 * d)
theorem kc_w_lt {d : Nat} (h : d < 65536) : kc_w d < 2 ^ 31 := by
  have := kc_l_lt31 (32768 * d)
  unfold kc_w
  omega
theorem kn_cw {d : Nat} (h : d < 65536) : f_C_codewordOf (nI d) = some (nI (kc_w d)) := by
  unfold f_C_codewordOf
  have e : nI d <<< ((15 : Int32) &&& 31) = nI (32768 * d) := by
    have := kn_shlw d (k := 15) (by decide)
    rwa [show d * 2 ^ 15 = 32768 * d by omega] at this
  rw [e, kn_rem (by omega)]
  show some (nI (32768 * d) ||| nI (kc_l 31 (32768 * d))) = _
  rw [kn_or]
  unfold kc_w
  rw [show 32768 * d = 2 ^ 15 * d by omega, Nat.two_pow_add_eq_or_of_lt (kc_l_lt31 _)]
/-- the reference's table -/
def kR (rm : Nat → Int32) : Prop := ∀ j, j < 31 → rm j = nI (kc_t j)
theorem kn_left_H {rm : Nat → Int32} (hr : kR rm) {w : Nat} (hw : w < 2 ^ 31) (j : Nat) : ∀ k n, k + j = 31 → j < n → f_R_left_H n rm (nI w) (nI (kc_l k w)) (nI k) = some (nI (kc_l 31 w)) := by
  induction j with
  | zero =>
    intro k n hk hn
    obtain ⟨n, rfl⟩ : ∃ m, n = m + 1 := ⟨n - 1, by omega⟩
    have : k = 31 := by omega
    subst this
    simp only [f_R_left_H]
    rw [if_pos (show (31 : Int32) ≤ nI 31 by decide)]
  | succ j ih =>
    intro k n hk hn
    obtain ⟨n, rfl⟩ : ∃ m, n = m + 1 := ⟨n - 1, by omega⟩
    simp only [f_R_left_H, f_R_left_J28]
    rw [if_neg (show ¬ (31 : Int32) ≤ nI k from nI_ge (b := 31) (by omega) (by decide))]
    by_cases hb : w.testBit k = true
    · rw [if_pos ((kn_bit hw (by omega)).mpr hb), if_neg (nI_in (by omega) (by decide)), nI_clamp (by omega), hr k (by omega), kn_xor, nI_1]
      have := ih (k + 1) n (by omega) (by omega)
      simp only [kc_l, if_pos hb] at this
      exact this
    · rw [if_neg (fun e => hb ((kn_bit hw (by omega)).mp e)), nI_1]
      have := ih (k + 1) n (by omega) (by omega)
      simp only [kc_l, if_neg hb] at this
      exact this
theorem kn_left {rm : Nat → Int32} (hr : kR rm) {w : Nat} (hw : w < 2 ^ 31) : f_R_left rm (nI w) = some (nI (kc_l 31 w)) := kn_left_H hr hw 31 0 100 (by decide) (by decide)
theorem kn_cwR {rm : Nat → Int32} (hr : kR rm) {d : Nat} (h : d < 65536) : f_R_codeword rm (nI d) = some (nI (kc_w d)) := by
  unfold f_R_codeword
  have e : (32768 : Int32) * nI d = nI (32768 * d) := pk_mul 32768 d
  rw [e, kn_left hr (by omega)]
  show some (nI (32768 * d) + nI (kc_l 31 (32768 * d))) = _
  rw [nI_add]
  rfl
/-! Bits counted. -/
def kc_bc (w : Nat) : Nat :=
  let a := w - (w / 2 ^ 1 &&& 1431655765)
  let b := (a &&& 858993459) + (a / 2 ^ 2 &&& 858993459)
  let c := (b + b / 2 ^ 4) &&& 252645135
  let d := c + c / 2 ^ 8
  (d + d / 2 ^ 16) &&& 63
theorem kn_bcN {w : Nat} (hw : w < 2 ^ 31) : f_U_bitCount (nI w) = some (nI (kc_bc w)) := by
  have h1 : w / 2 ^ 1 &&& 1431655765 ≤ w := Nat.le_trans Nat.and_le_left (Nat.div_le_self _ _)
  have e1 : nI w - (((nI w).toUInt32 >>> ((1 : Int32).toUInt32 &&& Int32.toUInt32 31)).toInt32 &&& (1431655765 : Int32)) = nI (w - (w / 2 ^ 1 &&& 1431655765)) := by
    have := kn_ushr (w := w) (by omega) (k := 1) (by decide)
    rw [show (1 : Int32) = nI 1 from rfl, this]
    show nI w - (nI (w / 2 ^ 1) &&& nI 1431655765) = _
    rw [kn_and, pk_sub h1]
  have s2 : ∀ x : Nat, x < 2 ^ 32 → ∀ k : Nat, k < 32 → ((nI x).toUInt32 >>> ((nI k).toUInt32 &&& Int32.toUInt32 31)).toInt32 = nI (x / 2 ^ k) := fun x hx k hk => kn_ushr hx hk
  have hA : w - (w / 2 ^ 1 &&& 1431655765) < 2 ^ 31 := by omega
  unfold f_U_bitCount
  rw [e1]
  generalize hAe : w - (w / 2 ^ 1 &&& 1431655765) = A at hA
  have e2 : (nI A &&& (858993459 : Int32)) + (((nI A).toUInt32 >>> ((2 : Int32).toUInt32 &&& Int32.toUInt32 31)).toInt32 &&& (858993459 : Int32)) = nI ((A &&& 858993459) + (A / 2 ^ 2 &&& 858993459)) := by
    rw [show (2 : Int32) = nI 2 from rfl, s2 A (by omega) 2 (by decide)]
    show (nI A &&& nI 858993459) + (nI (A / 2 ^ 2) &&& nI 858993459) = _
    rw [kn_and, kn_and, nI_add]
  rw [e2]
  have hB : (A &&& 858993459) + (A / 2 ^ 2 &&& 858993459) < 2 ^ 31 := by
    have h2 : A &&& 858993459 ≤ 858993459 := Nat.and_le_right
    have h3 : A / 2 ^ 2 &&& 858993459 ≤ 858993459 := Nat.and_le_right
    omega
  generalize hBe : (A &&& 858993459) + (A / 2 ^ 2 &&& 858993459) = B at hB
  have e3 : (nI B + ((nI B).toUInt32 >>> ((4 : Int32).toUInt32 &&& Int32.toUInt32 31)).toInt32) &&& (252645135 : Int32) = nI ((B + B / 2 ^ 4) &&& 252645135) := by
    rw [show (4 : Int32) = nI 4 from rfl, s2 B (by omega) 4 (by decide), nI_add]
    exact kn_and _ 252645135
  rw [e3]
  have hC : (B + B / 2 ^ 4) &&& 252645135 ≤ 252645135 := Nat.and_le_right
  generalize hCe : (B + B / 2 ^ 4) &&& 252645135 = C at hC
  have e4 : nI C + ((nI C).toUInt32 >>> ((8 : Int32).toUInt32 &&& Int32.toUInt32 31)).toInt32 = nI (C + C / 2 ^ 8) := by
    rw [show (8 : Int32) = nI 8 from rfl, s2 C (by omega) 8 (by decide), nI_add]
  rw [e4]
  have hD : C + C / 2 ^ 8 < 2 ^ 31 := by omega
  generalize hDe : C + C / 2 ^ 8 = D at hD
  have e5 : (nI D + ((nI D).toUInt32 >>> ((16 : Int32).toUInt32 &&& Int32.toUInt32 31)).toInt32) &&& (63 : Int32) = nI ((D + D / 2 ^ 16) &&& 63) := by
    rw [show (16 : Int32) = nI 16 from rfl, s2 D (by omega) 16 (by decide), nI_add]
    exact kn_and _ 63
  rw [e5]
  simp only [kc_bc, hAe, hBe, hCe, hDe]
def kc_bchk : Nat → Nat → Nat → Bool
  | 0, v, k => kc_bc v == k
  | d + 1, v, k => kc_bchk d (2 * v) k && kc_bchk d (2 * v + 1) (k + 1)
set_option maxRecDepth 100000 in
theorem kc_bchk_ok : kc_bchk 15 0 0 = true := by decide +kernel
theorem kc_bchk_use : ∀ (d v k : Nat), kc_bchk d v k = true → ∀ m, m < 2 ^ d → kc_bc (v * 2 ^ d + m) = k + kc_p d m := by
  intro d
  induction d with
  | zero =>
    intro v k h m hm
    have : m = 0 := by simpa using hm
    subst this
    simpa [kc_bchk, kc_p] using h
  | succ d ih =>
    intro v k h m hm
    simp only [kc_bchk, Bool.and_eq_true] at h
    by_cases h1 : m < 2 ^ d
    · have h2 := ih (2 * v) k h.1 m h1
      rw [show 2 * v * 2 ^ d = v * 2 ^ (d + 1) by rw [Nat.pow_succ, Nat.mul_comm 2 v, Nat.mul_assoc, Nat.mul_comm 2]] at h2
      rw [h2]
      simp only [kc_p, Nat.testBit_lt_two_pow h1]
      rfl
    · have hp : 2 ^ (d + 1) = 2 ^ d * 2 := Nat.pow_succ 2 d
      obtain ⟨m', rfl⟩ : ∃ m', m = 2 ^ d + m' := ⟨m - 2 ^ d, by omega⟩
      have hm' : m' < 2 ^ d := by omega
      have h2 := ih (2 * v + 1) (k + 1) h.2 m' hm'
      rw [show (2 * v + 1) * 2 ^ d + m' = v * 2 ^ (d + 1) + (2 ^ d + m') by rw [Nat.add_mul, Nat.pow_succ, Nat.mul_comm 2 v, Nat.mul_assoc, Nat.mul_comm 2]; omega] at h2
      rw [h2]
      have h3 : (2 ^ d + m').testBit d = true := by rw [Nat.testBit_two_pow_add_eq, Nat.testBit_lt_two_pow hm']; rfl
      have h4 : kc_p d (2 ^ d + m') = kc_p d m' := kc_p_eq (fun i hi => Nat.testBit_two_pow_add_gt hi m')
      simp only [kc_p, h3, h4, if_true]
      omega
theorem kc_bc15 {w : Nat} (h : w < 2 ^ 15) : kc_bc w = kc_p 31 w := by
  have h1 := kc_bchk_use 15 0 0 kc_bchk_ok w h
  rw [Nat.zero_mul, Nat.zero_add, Nat.zero_add] at h1
  rw [h1]
  exact (kc_p_low (fun _ _ => rfl) h).symm
set_option maxRecDepth 100000 in
theorem kc_bc3 : ∀ a, a < 31 → kc_bc (2 ^ a) = kc_p 31 (2 ^ a) ∧ ∀ b, b < a → kc_bc (2 ^ a ^^^ 2 ^ b) = 2 ∧ ∀ c, c < b → kc_bc (2 ^ a ^^^ 2 ^ b ^^^ 2 ^ c) = 3 := by decide +kernel
set_option maxRecDepth 100000 in
theorem kc_p3 : ∀ a, a < 31 → ∀ b, b < a → kc_p 31 (2 ^ a ^^^ 2 ^ b) = 2 ∧ ∀ c, c < b → kc_p 31 (2 ^ a ^^^ 2 ^ b ^^^ 2 ^ c) = 3 := by decide +kernel
theorem kc_bcP {e : Nat} (h : kc_pat e) : kc_bc e = kc_p 31 e := by
  rcases h with rfl | ⟨a, ha, rfl⟩ | ⟨a, b, hb, ha, rfl⟩ | ⟨a, b, c, hc, hb, ha, rfl⟩
  · decide
  · exact (kc_bc3 a ha).1
  · rw [((kc_bc3 a ha).2 b hb).1, (kc_p3 a ha b hb).1]
  · rw [((kc_bc3 a ha).2 b hb).2 c hc, (kc_p3 a ha b hb).2 c hc]
theorem kc_p_31 (n w : Nat) : kc_p n w ≤ n := by
  induction n with
  | zero => exact Nat.le_refl _
  | succ n ih =>
    simp only [kc_p]
    split <;> omega
