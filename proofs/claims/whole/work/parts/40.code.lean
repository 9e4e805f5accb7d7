/-! The code by numbers: rests of words of 31 bits, turned words, patterns of at most three bits. -/
theorem kc_x4 (a b t : Nat) : (a ^^^ t) ^^^ (b ^^^ t) = a ^^^ b := by
  apply Nat.eq_of_testBit_eq
  intro i
  simp only [Nat.testBit_xor]
  cases a.testBit i <;> cases b.testBit i <;> cases t.testBit i <;> rfl
theorem kc_x3 (a b t : Nat) : (a ^^^ t) ^^^ b = (a ^^^ b) ^^^ t := by
  apply Nat.eq_of_testBit_eq
  intro i
  simp only [Nat.testBit_xor]
  cases a.testBit i <;> cases b.testBit i <;> cases t.testBit i <;> rfl
theorem kc_x2 (a b t : Nat) : a ^^^ (b ^^^ t) = (a ^^^ b) ^^^ t := by
  apply Nat.eq_of_testBit_eq
  intro i
  simp only [Nat.testBit_xor]
  cases a.testBit i <;> cases b.testBit i <;> cases t.testBit i <;> rfl
theorem kc_xx (a b : Nat) : (a ^^^ b) ^^^ b = a := by
  apply Nat.eq_of_testBit_eq
  intro i
  simp only [Nat.testBit_xor]
  cases a.testBit i <;> cases b.testBit i <;> rfl
theorem kc_x0 {a b : Nat} (h : a ^^^ b = 0) : a = b := by
  have h1 := kc_xx a b
  rw [h, Nat.zero_xor] at h1
  exact h1.symm
/-- the rest of the power k -/
def kc_t : Nat → Nat
  | 0 => 1
  | k + 1 => if 2 * kc_t k > 32767 then (2 * kc_t k) ^^^ 36783 else 2 * kc_t k
/-- the rest of a word's first n bits -/
def kc_l : Nat → Nat → Nat
  | 0, _ => 0
  | n + 1, w => if w.testBit n = true then kc_l n w ^^^ kc_t n else kc_l n w
theorem kc_l_xor (n a b : Nat) : kc_l n (a ^^^ b) = kc_l n a ^^^ kc_l n b := by
  induction n with
  | zero => simp [kc_l]
  | succ n ih =>
    simp only [kc_l, Nat.testBit_xor, ih]
    cases a.testBit n <;> cases b.testBit n
    · rfl
    · exact (kc_x2 _ _ _).symm
    · exact (kc_x3 _ _ _).symm
    · exact (kc_x4 _ _ _).symm
theorem kc_t_lt : ∀ k, k < 31 → kc_t k < 32768 := by decide
theorem kc_l_lt {n : Nat} (hn : n ≤ 31) (w : Nat) : kc_l n w < 32768 := by
  induction n with
  | zero => simp [kc_l]
  | succ n ih =>
    have h1 := ih (by omega)
    have h2 := kc_t_lt n (by omega)
    simp only [kc_l]
    split
    · exact Nat.xor_lt_two_pow (n := 15) h1 h2
    · exact h1
theorem kc_t_low : ∀ k, k < 15 → kc_t k = 2 ^ k := by decide
/-- the low bits are their own rest -/
theorem kc_l_low {n : Nat} (hn : n ≤ 15) (w i : Nat) : (kc_l n w).testBit i = (decide (i < n) && w.testBit i) := by
  induction n with
  | zero => simp [kc_l]
  | succ n ih =>
    have h1 := ih (by omega)
    simp only [kc_l]
    by_cases hw : w.testBit n = true
    · rw [if_pos hw, Nat.testBit_xor, h1, kc_t_low n (by omega), Nat.testBit_two_pow]
      by_cases hi : n = i
      · subst hi
        simp [hw]
      · have h2 : decide (i < n) = decide (i < n + 1) := by
          by_cases h3 : i < n
          · rw [decide_eq_true h3, decide_eq_true (by omega)]
          · rw [decide_eq_false h3, decide_eq_false (by omega)]
        simp [hi, h2]
    · rw [if_neg hw, h1]
      by_cases hi : n = i
      · subst hi
        simp at hw
        simp [hw]
      · have h2 : decide (i < n) = decide (i < n + 1) := by
          by_cases h3 : i < n
          · rw [decide_eq_true h3, decide_eq_true (by omega)]
          · rw [decide_eq_false h3, decide_eq_false (by omega)]
        rw [h2]
theorem kc_l_up {n w : Nat} (h : w < 2 ^ 15) (hn : 15 ≤ n) : kc_l n w = kc_l 15 w := by
  induction n with
  | zero => omega
  | succ n ih =>
    by_cases h1 : n + 1 = 15
    · rw [h1]
    · have h2 : w.testBit n = false := Nat.testBit_lt_two_pow (Nat.lt_of_lt_of_le h (Nat.pow_le_pow_right (by decide) (by omega)))
      simp only [kc_l, h2]
      exact ih (by omega)
theorem kc_l_id {w : Nat} (h : w < 2 ^ 15) : kc_l 31 w = w := by
  rw [kc_l_up h (by decide)]
  apply Nat.eq_of_testBit_eq
  intro i
  rw [kc_l_low (by decide)]
  by_cases hi : i < 15
  · simp [hi]
  · have h2 : w.testBit i = false := Nat.testBit_lt_two_pow (Nat.lt_of_lt_of_le h (Nat.pow_le_pow_right (by decide) (by omega)))
    simp [h2]
theorem kc_g0 : ∀ j, j < 16 → kc_l 31 (36783 <<< j) = 0 := by decide
/-- the division: bit by bit from 15 + n - 1 down to 15 -/
def kc_r : Nat → Nat → Nat
  | 0, w => w
  | n + 1, w => if w.testBit (15 + n) = true then kc_r n (w ^^^ (36783 <<< n)) else kc_r n w
theorem kc_g_bit : ∀ j, j < 16 → (36783 <<< j).testBit (15 + j) = true ∧ 36783 <<< j < 2 ^ (15 + j + 1) := by decide
theorem kc_r_l {n : Nat} (hn : n ≤ 16) (w : Nat) : kc_l 31 (kc_r n w) = kc_l 31 w := by
  induction n generalizing w with
  | zero => rfl
  | succ n ih =>
    simp only [kc_r]
    split
    · rw [ih (by omega), kc_l_xor, kc_g0 n (by omega), Nat.xor_zero]
    · exact ih (by omega) w
theorem kc_top {w n : Nat} (h : w < 2 ^ (n + 1)) (hb : w.testBit n = false) : w < 2 ^ n := by
  apply Nat.lt_pow_two_of_testBit
  intro i hi
  by_cases h1 : i = n
  · rw [h1]; exact hb
  · exact Nat.testBit_lt_two_pow (Nat.lt_of_lt_of_le h (Nat.pow_le_pow_right (by decide) (by omega)))
theorem kc_r_lt {n : Nat} (hn : n ≤ 16) {w : Nat} (h : w < 2 ^ (15 + n)) : kc_r n w < 2 ^ 15 := by
  induction n generalizing w with
  | zero => exact h
  | succ n ih =>
    simp only [kc_r]
    obtain ⟨g1, g2⟩ := kc_g_bit n (by omega)
    split
    · next hb =>
      refine ih (by omega) (kc_top (Nat.xor_lt_two_pow h g2) ?_)
      rw [Nat.testBit_xor, hb, g1]
      rfl
    · next hb =>
      exact ih (by omega) (kc_top h (by simpa using hb))
/-- the division's rest is the rest -/
theorem kc_r_eq {w : Nat} (h : w < 2 ^ 31) : kc_r 16 w = kc_l 31 w := by
  rw [← kc_r_l (n := 16) (by decide) w, kc_l_id (kc_r_lt (n := 16) (by decide) h)]
/-- how many bits are set, of the first n -/
def kc_p : Nat → Nat → Nat
  | 0, _ => 0
  | n + 1, w => kc_p n w + if w.testBit n = true then 1 else 0
/-- the words whose rest is nothing: each data bit brings its own checks -/
def kc_b (n : Nat) : Nat := 2 ^ (15 + n) ^^^ kc_t (15 + n)
def kc_s : Nat → Nat → Nat
  | 0, _ => 0
  | n + 1, w => if w.testBit (15 + n) = true then kc_s n w ^^^ kc_b n else kc_s n w
/-- every word of the code but 0 has seven bits: data bits counted in k, checks gathered in a; from seven data bits on nothing is to be seen -/
def kc_chk : Nat → Nat → Nat → Bool
  | 0, k, a => Nat.ble 7 (k + kc_p 15 a) || (k == 0)
  | n + 1, k, a => Nat.ble 7 k || (kc_chk n k a && kc_chk n (k + 1) (a ^^^ kc_t (15 + n)))
set_option maxRecDepth 100000 in
theorem kc_chk_ok : kc_chk 16 0 0 = true := by decide +kernel
def kc_a : Nat → Nat → Nat
  | 0, _ => 0
  | n + 1, w => if w.testBit (15 + n) = true then kc_a n w ^^^ kc_t (15 + n) else kc_a n w
def kc_d : Nat → Nat → Nat
  | 0, _ => 0
  | n + 1, w => kc_d n w + if w.testBit (15 + n) = true then 1 else 0
theorem kc_chk_use {n : Nat} (w : Nat) : ∀ k a, kc_chk n k a = true → 7 ≤ k + kc_d n w + kc_p 15 (a ^^^ kc_a n w) ∨ k + kc_d n w = 0 := by
  induction n with
  | zero =>
    intro k a h
    simp only [kc_chk, Bool.or_eq_true, Nat.ble_eq, beq_iff_eq] at h
    simp only [kc_d, kc_a, Nat.xor_zero, Nat.add_zero]
    exact h
  | succ n ih =>
    intro k a h
    simp only [kc_chk, Bool.or_eq_true, Bool.and_eq_true, Nat.ble_eq] at h
    by_cases h7 : 7 ≤ k
    · exact Or.inl (by omega)
    · rcases h with h | ⟨h1, h2⟩
      · exact absurd h h7
      · by_cases hb : w.testBit (15 + n) = true
        · simp only [kc_d, kc_a, if_pos hb]
          have h3 := ih (k + 1) _ h2
          rw [kc_x3, ← kc_x2] at h3
          rcases h3 with h3 | h3
          · exact Or.inl (by omega)
          · omega
        · simp only [kc_d, kc_a, if_neg hb]
          exact ih k a h1
theorem kc_l_a (n w : Nat) : kc_l (15 + n) w = kc_l 15 w ^^^ kc_a n w := by
  induction n with
  | zero => simp [kc_a]
  | succ n ih =>
    show (if w.testBit (15 + n) = true then kc_l (15 + n) w ^^^ kc_t (15 + n) else kc_l (15 + n) w) = kc_l 15 w ^^^ (if w.testBit (15 + n) = true then kc_a n w ^^^ kc_t (15 + n) else kc_a n w)
    rw [ih]
    by_cases hb : w.testBit (15 + n) = true
    · rw [if_pos hb, if_pos hb]
      exact (kc_x2 _ _ _).symm
    · rw [if_neg hb, if_neg hb]
theorem kc_p_d (n w : Nat) : kc_p (15 + n) w = kc_p 15 w + kc_d n w := by
  induction n with
  | zero => rfl
  | succ n ih =>
    show kc_p (15 + n) w + (if w.testBit (15 + n) = true then 1 else 0) = kc_p 15 w + (kc_d n w + if w.testBit (15 + n) = true then 1 else 0)
    rw [ih]
    omega
theorem kc_p_eq {n a b : Nat} (h : ∀ i, i < n → a.testBit i = b.testBit i) : kc_p n a = kc_p n b := by
  induction n with
  | zero => rfl
  | succ n ih =>
    simp only [kc_p, ih (fun i hi => h i (by omega)), h n (by omega)]
theorem kc_d0 {n w : Nat} (h : kc_d n w = 0) : kc_a n w = 0 ∧ ∀ i, i < n → w.testBit (15 + i) = false := by
  induction n with
  | zero => exact ⟨rfl, fun i hi => by omega⟩
  | succ n ih =>
    simp only [kc_d] at h
    by_cases hb : w.testBit (15 + n) = true
    · rw [if_pos hb] at h
      omega
    · rw [if_neg hb] at h
      obtain ⟨h1, h2⟩ := ih (by omega)
      simp only [kc_a, if_neg hb]
      refine ⟨h1, fun i hi => ?_⟩
      by_cases h3 : i = n
      · rw [h3]
        simpa using hb
      · exact h2 i (by omega)
/-- any two words of the code differ in seven bits -/
theorem kc_dist {w : Nat} (hw : w < 2 ^ 31) (h0 : kc_l 31 w = 0) (hp : kc_p 31 w ≤ 6) : w = 0 := by
  have h1 : kc_l 31 w = kc_l 15 w ^^^ kc_a 16 w := kc_l_a 16 w
  have h2 : kc_p 31 w = kc_p 15 w + kc_d 16 w := kc_p_d 16 w
  have h3 : kc_l 15 w = kc_a 16 w := kc_x0 (h1.symm.trans h0)
  have h4 : kc_p 15 (kc_a 16 w) = kc_p 15 w := by
    rw [← h3]
    refine kc_p_eq (fun i hi => ?_)
    rw [kc_l_low (by decide)]
    simp [hi]
  have h5 := kc_chk_use (n := 16) w 0 0 kc_chk_ok
  rw [Nat.zero_xor, h4] at h5
  have h6 : kc_d 16 w = 0 := by omega
  obtain ⟨h7, h8⟩ := kc_d0 h6
  rw [h7] at h3
  apply Nat.eq_of_testBit_eq
  intro i
  rw [Nat.zero_testBit]
  by_cases hi : i < 15
  · have h9 := kc_l_low (n := 15) (by decide) w i
    rw [h3, Nat.zero_testBit, decide_eq_true hi, Bool.true_and] at h9
    exact h9.symm
  · by_cases h31 : i < 31
    · have h9 := h8 (i - 15) (by omega)
      rwa [show 15 + (i - 15) = i by omega] at h9
    · exact Nat.testBit_lt_two_pow (Nat.lt_of_lt_of_le hw (Nat.pow_le_pow_right (by decide) (by omega)))
