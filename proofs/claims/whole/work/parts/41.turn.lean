/-! Turned words, patterns of few bits. -/
/-- a word of 31 bits, turned by t -/
def kc_u (t w : Nat) : Nat := ((w <<< t) ||| (w >>> (31 - t))) % 2 ^ 31
theorem kc_u_bit {t w i : Nat} (ht : t ≤ 31) (hw : w < 2 ^ 31) : (kc_u t w).testBit i = (decide (i < 31) && if i < t then w.testBit (i + (31 - t)) else w.testBit (i - t)) := by
  unfold kc_u
  rw [Nat.testBit_mod_two_pow, Nat.testBit_or, Nat.testBit_shiftLeft, Nat.testBit_shiftRight]
  by_cases h31 : i < 31
  · simp only [h31, decide_true, Bool.true_and]
    by_cases h : i < t
    · rw [if_pos h, decide_eq_false (by omega), Bool.false_and, Bool.false_or, Nat.add_comm]
    · rw [if_neg h, decide_eq_true (by omega), Bool.true_and]
      have h2 : w.testBit (31 - t + i) = false := Nat.testBit_lt_two_pow (Nat.lt_of_lt_of_le hw (Nat.pow_le_pow_right (by decide) (by omega)))
      rw [h2, Bool.or_false]
  · simp [h31]
theorem kc_u_lt (t w : Nat) : kc_u t w < 2 ^ 31 := Nat.mod_lt _ (by decide)
theorem kc_big {w i : Nat} (hw : w < 2 ^ 31) (hi : 31 ≤ i) : w.testBit i = false := Nat.testBit_lt_two_pow (Nat.lt_of_lt_of_le hw (Nat.pow_le_pow_right (by decide) hi))
theorem kc_u_back {t w : Nat} (ht : t ≤ 31) (hw : w < 2 ^ 31) : kc_u (31 - t) (kc_u t w) = w := by
  apply Nat.eq_of_testBit_eq
  intro i
  rw [kc_u_bit (by omega) (kc_u_lt t w)]
  by_cases h31 : i < 31
  · rw [decide_eq_true h31, Bool.true_and]
    by_cases h : i < 31 - t
    · rw [if_pos h, kc_u_bit ht hw, decide_eq_true (by omega), Bool.true_and, if_neg (by omega)]
      congr 1
      omega
    · rw [if_neg h, kc_u_bit ht hw, decide_eq_true (by omega), Bool.true_and]
      by_cases h0 : i - (31 - t) < t
      · rw [if_pos h0]
        congr 1
        omega
      · omega
  · rw [decide_eq_false h31, Bool.false_and, kc_big hw (by omega)]
theorem kc_u_xor {t a b : Nat} (ht : t ≤ 31) (ha : a < 2 ^ 31) (hb : b < 2 ^ 31) : kc_u t (a ^^^ b) = kc_u t a ^^^ kc_u t b := by
  apply Nat.eq_of_testBit_eq
  intro i
  rw [Nat.testBit_xor, kc_u_bit ht ha, kc_u_bit ht hb, kc_u_bit ht (Nat.xor_lt_two_pow ha hb)]
  by_cases h31 : i < 31
  · simp only [h31, decide_true, Bool.true_and]
    split <;> rw [Nat.testBit_xor]
  · simp [h31]
theorem kc_b_lt : ∀ n, n < 16 → kc_b n < 2 ^ 31 := by decide
set_option maxRecDepth 100000 in
theorem kc_b_u : ∀ t, t < 32 → ∀ n, n < 16 → kc_l 31 (kc_u t (kc_b n)) = 0 := by decide +kernel
theorem kc_b_0 : ∀ n, n < 16 → kc_l 31 (kc_b n) = 0 := by decide +kernel
theorem kc_s_lt {n : Nat} (hn : n ≤ 16) (w : Nat) : kc_s n w < 2 ^ 31 := by
  induction n with
  | zero => exact Nat.two_pow_pos 31
  | succ n ih =>
    simp only [kc_s]
    split
    · exact Nat.xor_lt_two_pow (ih (by omega)) (kc_b_lt n (by omega))
    · exact ih (by omega)
theorem kc_s_u {n t : Nat} (hn : n ≤ 16) (ht : t < 32) (w : Nat) : kc_l 31 (kc_u t (kc_s n w)) = 0 := by
  induction n with
  | zero => exact (by decide +kernel : ∀ t, t < 32 → kc_l 31 (kc_u t 0) = 0) t ht
  | succ n ih =>
    simp only [kc_s]
    split
    · rw [kc_u_xor (by omega) (kc_s_lt (by omega) w) (kc_b_lt n (by omega)), kc_l_xor, ih (by omega), kc_b_u t ht n (by omega)]
      rfl
    · exact ih (by omega)
theorem kc_s_0 {n : Nat} (hn : n ≤ 16) (w : Nat) : kc_l 31 (kc_s n w) = 0 := by
  induction n with
  | zero => exact (by decide : kc_l 31 0 = 0)
  | succ n ih =>
    simp only [kc_s]
    split
    · rw [kc_l_xor, ih (by omega), kc_b_0 n (by omega)]
      rfl
    · exact ih (by omega)
theorem kc_b_bit : ∀ n, n < 16 → ∀ i, i < 16 → (kc_b n).testBit (15 + i) = decide (i = n) := by decide +kernel
theorem kc_s_bit {n : Nat} (hn : n ≤ 16) (w : Nat) {i : Nat} (hi : i < 16) : (kc_s n w).testBit (15 + i) = (decide (i < n) && w.testBit (15 + i)) := by
  induction n with
  | zero => simp [kc_s]
  | succ n ih =>
    have h1 := ih (by omega)
    simp only [kc_s]
    by_cases hw : w.testBit (15 + n) = true
    · rw [if_pos hw, Nat.testBit_xor, h1, kc_b_bit n (by omega) i hi]
      by_cases h : i = n
      · subst h
        simp [hw]
      · have h2 : decide (i < n) = decide (i < n + 1) := by
          by_cases h3 : i < n
          · rw [decide_eq_true h3, decide_eq_true (by omega)]
          · rw [decide_eq_false h3, decide_eq_false (by omega)]
        rw [h2, decide_eq_false h, Bool.xor_false]
    · rw [if_neg hw, h1]
      by_cases h : i = n
      · subst h
        have h4 : w.testBit (15 + i) = false := by simpa using hw
        rw [h4, Bool.and_false, Bool.and_false]
      · have h2 : decide (i < n) = decide (i < n + 1) := by
          by_cases h3 : i < n
          · rw [decide_eq_true h3, decide_eq_true (by omega)]
          · rw [decide_eq_false h3, decide_eq_false (by omega)]
        rw [h2]
/-- a word whose rest is nothing is what its data bits bring -/
theorem kc_s_all {w : Nat} (hw : w < 2 ^ 31) (h0 : kc_l 31 w = 0) : kc_s 16 w = w := by
  have h1 : kc_l 31 (w ^^^ kc_s 16 w) = 0 := by rw [kc_l_xor, h0, kc_s_0 (by decide)]; rfl
  have h2 : w ^^^ kc_s 16 w < 2 ^ 15 := by
    apply Nat.lt_pow_two_of_testBit
    intro i hi
    rw [Nat.testBit_xor]
    by_cases h31 : i < 31
    · have h3 := kc_s_bit (n := 16) (by decide) w (i := i - 15) (by omega)
      rw [show 15 + (i - 15) = i by omega, decide_eq_true (by omega), Bool.true_and] at h3
      rw [h3, Bool.xor_self]
    · rw [kc_big hw (by omega), kc_big (kc_s_lt (by decide) w) (by omega)]
      rfl
  rw [kc_l_id h2] at h1
  exact (kc_x0 h1).symm
/-- a word of the code, turned, is one -/
theorem kc_u_code {w t : Nat} (hw : w < 2 ^ 31) (h0 : kc_l 31 w = 0) (ht : t < 32) : kc_l 31 (kc_u t w) = 0 := by
  have h := kc_s_u (n := 16) (by decide) ht w
  rwa [kc_s_all hw h0] at h
/-- bits counted from lo on -/
def kc_q (lo : Nat) : Nat → Nat → Nat
  | 0, _ => 0
  | n + 1, w => kc_q lo n w + if w.testBit (lo + n) = true then 1 else 0
theorem kc_q_p (n w : Nat) : kc_q 0 n w = kc_p n w := by
  induction n with
  | zero => rfl
  | succ n ih => simp only [kc_q, kc_p, ih, Nat.zero_add]
theorem kc_q_add (lo a b w : Nat) : kc_q lo (a + b) w = kc_q lo a w + kc_q (lo + a) b w := by
  induction b with
  | zero => rfl
  | succ b ih =>
    show kc_q lo (a + b + 1) w = _
    simp only [kc_q, ih, Nat.add_assoc]
theorem kc_q_eq {lo lo' n v w : Nat} (h : ∀ i, i < n → v.testBit (lo + i) = w.testBit (lo' + i)) : kc_q lo n v = kc_q lo' n w := by
  induction n with
  | zero => rfl
  | succ n ih => simp only [kc_q, ih (fun i hi => h i (by omega)), h n (by omega)]
/-- turning keeps the number of bits -/
theorem kc_u_p {t w : Nat} (ht : t ≤ 31) (hw : w < 2 ^ 31) : kc_p 31 (kc_u t w) = kc_p 31 w := by
  have e1 : kc_q 0 31 (kc_u t w) = kc_q 0 t (kc_u t w) + kc_q t (31 - t) (kc_u t w) := by
    have h := kc_q_add 0 t (31 - t) (kc_u t w)
    rwa [show t + (31 - t) = 31 by omega, Nat.zero_add] at h
  have e2 : kc_q 0 31 w = kc_q 0 (31 - t) w + kc_q (31 - t) t w := by
    have h := kc_q_add 0 (31 - t) t w
    rwa [show 31 - t + t = 31 by omega, Nat.zero_add] at h
  have e3 : kc_q 0 t (kc_u t w) = kc_q (31 - t) t w := kc_q_eq (fun i hi => by
    rw [Nat.zero_add, kc_u_bit ht hw, decide_eq_true (by omega), Bool.true_and, if_pos hi, Nat.add_comm])
  have e4 : kc_q t (31 - t) (kc_u t w) = kc_q 0 (31 - t) w := kc_q_eq (fun i hi => by
    rw [kc_u_bit ht hw, decide_eq_true (by omega), Bool.true_and, if_neg (by omega), Nat.zero_add]
    congr 1
    omega)
  rw [← kc_q_p, ← kc_q_p, e1, e2, e3, e4, Nat.add_comm]
theorem kc_p_xor (n a b : Nat) : kc_p n (a ^^^ b) ≤ kc_p n a + kc_p n b := by
  induction n with
  | zero => exact Nat.zero_le _
  | succ n ih =>
    simp only [kc_p, Nat.testBit_xor]
    cases a.testBit n <;> cases b.testBit n <;> simp <;> omega
/-- two patterns of at most three bits with one rest are one -/
theorem kc_one {a b : Nat} (ha : a < 2 ^ 31) (hb : b < 2 ^ 31) (pa : kc_p 31 a ≤ 3) (pb : kc_p 31 b ≤ 3) (h : kc_l 31 a = kc_l 31 b) : a = b := by
  have h1 : kc_l 31 (a ^^^ b) = 0 := by rw [kc_l_xor, h, Nat.xor_self]
  have h2 := kc_p_xor 31 a b
  exact kc_x0 (kc_dist (Nat.xor_lt_two_pow ha hb) h1 (by omega))
