/-! Mending by numbers: what the class's search gives, and that it finds what there is. -/
def kc_f (wr : Nat) : Nat → Nat → Option (Nat × Nat)
  | 0, _ => none
  | n + 1, k => if kc_p 31 (wr ^^^ kc_t k) < 3 then some (k, wr ^^^ kc_t k) else kc_f wr n (k + 1)
def kc_e1 (w : Nat) : Option Nat := if kc_p 31 (kc_l 31 w) ≤ 3 then some (kc_l 31 w) else (kc_f (kc_l 31 w) 16 15).map (fun q => q.2 ^^^ 2 ^ q.1)
def kc_e (w : Nat) : Nat → Nat → Option Nat
  | 0, _ => none
  | n + 1, t => match kc_e1 (kc_u t w) with
    | some e => some (kc_u (31 - t) (kc_u t w ^^^ e))
    | none => kc_e w n (t + 5)
theorem kc_pw : ∀ k, k < 31 → kc_l 31 (2 ^ k) = kc_t k ∧ kc_p 31 (2 ^ k) = 1 ∧ 2 ^ k < 2 ^ 31 := by decide +kernel
theorem kc_f_some {wr n k : Nat} {q : Nat × Nat} (h : kc_f wr n k = some q) : k ≤ q.1 ∧ q.1 < k + n ∧ q.2 = wr ^^^ kc_t q.1 ∧ kc_p 31 q.2 < 3 := by
  induction n generalizing k with
  | zero => cases h
  | succ n ih =>
    simp only [kc_f] at h
    split at h
    · next hp =>
      cases h
      exact ⟨Nat.le_refl _, by omega, rfl, hp⟩
    · obtain ⟨h1, h2, h3, h4⟩ := ih h
      exact ⟨by omega, by omega, h3, h4⟩
theorem kc_f_any {wr n k j : Nat} (hj : k ≤ j) (hn : j < k + n) (hp : kc_p 31 (wr ^^^ kc_t j) < 3) : ∃ q, kc_f wr n k = some q := by
  induction n generalizing k with
  | zero => omega
  | succ n ih =>
    simp only [kc_f]
    by_cases h : kc_p 31 (wr ^^^ kc_t k) < 3
    · exact ⟨_, if_pos h⟩
    · rw [if_neg h]
      have hk : k ≠ j := fun e => h (by rw [e]; exact hp)
      exact ih (by omega) (by omega)
theorem kc_l_lt31 (w : Nat) : kc_l 31 w < 2 ^ 15 := kc_l_lt (by decide) w
theorem kc_e1_some {w e : Nat} (h : kc_e1 w = some e) : kc_l 31 (w ^^^ e) = 0 ∧ kc_p 31 e ≤ 3 ∧ e < 2 ^ 31 := by
  unfold kc_e1 at h
  split at h
  · next hp =>
    cases h
    exact ⟨by rw [kc_l_xor, kc_l_id (kc_l_lt31 w), Nat.xor_self], hp, Nat.lt_of_lt_of_le (kc_l_lt31 w) (by decide)⟩
  · cases hf : kc_f (kc_l 31 w) 16 15 with
    | none => rw [hf] at h; cases h
    | some q =>
      rw [hf] at h
      obtain ⟨h1, h2, h3, h4⟩ := kc_f_some hf
      obtain ⟨g1, g2, g3⟩ := kc_pw q.1 (by omega)
      have he : e = q.2 ^^^ 2 ^ q.1 := (Option.some.inj h).symm
      have hlow : q.2 < 2 ^ 15 := by rw [h3]; exact Nat.xor_lt_two_pow (kc_l_lt31 w) (kc_t_lt q.1 (by omega))
      have h5 := kc_p_xor 31 q.2 (2 ^ q.1)
      refine ⟨?_, ?_, ?_⟩
      · rw [he, kc_l_xor, kc_l_xor, kc_l_id hlow, g1, h3, kc_xx, Nat.xor_self]
      · rw [he]
        omega
      · rw [he]
        exact Nat.xor_lt_two_pow (Nat.lt_of_lt_of_le hlow (by decide)) g3
/-- what mending gives is a word of the code, at most three bits away -/
theorem kc_e_some {w : Nat} (hw : w < 2 ^ 31) {n t c : Nat} (ht : t + 5 * n ≤ 35) (h : kc_e w n t = some c) : c < 2 ^ 31 ∧ kc_l 31 c = 0 ∧ kc_p 31 (w ^^^ c) ≤ 3 := by
  induction n generalizing t with
  | zero => cases h
  | succ n ih =>
    simp only [kc_e] at h
    cases he : kc_e1 (kc_u t w) with
    | none =>
      rw [he] at h
      exact ih (by omega) h
    | some e =>
      rw [he] at h
      obtain ⟨h1, h2, h3⟩ := kc_e1_some he
      have hc : c = kc_u (31 - t) (kc_u t w ^^^ e) := (Option.some.inj h).symm
      have hlt : kc_u t w ^^^ e < 2 ^ 31 := Nat.xor_lt_two_pow (kc_u_lt t w) h3
      have hx : w ^^^ c = kc_u (31 - t) e := by
        rw [hc, kc_u_xor (by omega) (kc_u_lt t w) h3, kc_u_back (by omega) hw, kc_x2, Nat.xor_self, Nat.zero_xor]
      refine ⟨by rw [hc]; exact kc_u_lt _ _, by rw [hc]; exact kc_u_code hlt h1 (by omega), ?_⟩
      rw [hx, kc_u_p (by omega) h3]
      exact h2
/-- one data bit at most: the first search finds it -/
theorem kc_d1 {n f : Nat} (h : kc_d n f = 1) : ∃ k, k < n ∧ f.testBit (15 + k) = true ∧ ∀ i, i < n → i ≠ k → f.testBit (15 + i) = false := by
  induction n with
  | zero => cases h
  | succ n ih =>
    simp only [kc_d] at h
    by_cases hb : f.testBit (15 + n) = true
    · rw [if_pos hb] at h
      obtain ⟨-, h2⟩ := kc_d0 (n := n) (w := f) (by omega)
      exact ⟨n, by omega, hb, fun i hi hne => h2 i (by omega)⟩
    · rw [if_neg hb] at h
      obtain ⟨k, h1, h2, h3⟩ := ih (by omega)
      refine ⟨k, by omega, h2, fun i hi hne => ?_⟩
      by_cases h4 : i = n
      · rw [h4]
        simpa using hb
      · exact h3 i (by omega) hne
theorem kc_p_low {f g : Nat} (h : ∀ i, i < 15 → g.testBit i = f.testBit i) (hg : g < 2 ^ 15) : kc_p 31 g = kc_p 15 f := by
  have h1 : kc_p 31 g = kc_p 15 g + kc_d 16 g := kc_p_d 16 g
  have h2 : ∀ n, kc_d n g = 0 := by
    intro n
    induction n with
    | zero => rfl
    | succ n ih =>
      have h3 : g.testBit (15 + n) = false := Nat.testBit_lt_two_pow (Nat.lt_of_lt_of_le hg (Nat.pow_le_pow_right (by decide) (by omega)))
      simp only [kc_d, ih, h3]
      rfl
  rw [h1, h2, kc_p_eq h, Nat.add_zero]
theorem kc_e1_any {v f : Nat} (hf : f < 2 ^ 31) (h0 : kc_l 31 (v ^^^ f) = 0) (hp : kc_p 31 f ≤ 3) (hd : kc_d 16 f ≤ 1) : ∃ e, kc_e1 v = some e := by
  have hl : kc_l 31 v = kc_l 31 f := by rw [kc_l_xor] at h0; exact kc_x0 h0
  have hs : kc_p 31 f = kc_p 15 f + kc_d 16 f := kc_p_d 16 f
  unfold kc_e1
  by_cases h3 : kc_p 31 (kc_l 31 v) ≤ 3
  · exact ⟨_, if_pos h3⟩
  · rw [if_neg h3]
    have hd1 : kc_d 16 f = 1 := by
      rcases Nat.eq_zero_or_pos (kc_d 16 f) with h | h
      · exfalso
        obtain ⟨-, h4⟩ := kc_d0 h
        have h5 : f < 2 ^ 15 := by
          apply Nat.lt_pow_two_of_testBit
          intro i hi
          by_cases h31 : i < 31
          · have h6 := h4 (i - 15) (by omega)
            rwa [show 15 + (i - 15) = i by omega] at h6
          · exact kc_big hf (by omega)
        apply h3
        rw [hl, kc_l_id h5]
        exact hp
      · omega
    obtain ⟨k, hk, hb, hno⟩ := kc_d1 hd1
    obtain ⟨g1, g2, g3⟩ := kc_pw (15 + k) (by omega)
    have hlow : f ^^^ 2 ^ (15 + k) < 2 ^ 15 := by
      apply Nat.lt_pow_two_of_testBit
      intro i hi
      rw [Nat.testBit_xor, Nat.testBit_two_pow]
      by_cases h31 : i < 31
      · by_cases h7 : i = 15 + k
        · rw [h7, hb, decide_eq_true rfl]
          rfl
        · have h6 := hno (i - 15) (by omega) (by omega)
          rw [show 15 + (i - 15) = i by omega] at h6
          rw [h6, decide_eq_false (fun e => h7 e.symm)]
          rfl
      · rw [kc_big hf (by omega), decide_eq_false (by omega)]
        rfl
    have hpl : kc_p 31 (f ^^^ 2 ^ (15 + k)) = kc_p 15 f := kc_p_low (fun i hi => by
      rw [Nat.testBit_xor, Nat.testBit_two_pow, decide_eq_false (by omega), Bool.xor_false]) hlow
    have hw : kc_l 31 v ^^^ kc_t (15 + k) = f ^^^ 2 ^ (15 + k) := by
      rw [hl, ← g1, ← kc_l_xor, kc_l_id hlow]
    obtain ⟨q, hq⟩ := kc_f_any (wr := kc_l 31 v) (n := 16) (k := 15) (j := 15 + k) (by omega) (by omega) (by rw [hw, hpl]; omega)
    exact ⟨_, by rw [hq]; rfl⟩
theorem kc_d_xor (n a b : Nat) : kc_d n (a ^^^ b) ≤ kc_d n a + kc_d n b := by
  induction n with
  | zero => exact Nat.zero_le _
  | succ n ih =>
    simp only [kc_d, Nat.testBit_xor]
    cases a.testBit (15 + n) <;> cases b.testBit (15 + n) <;> simp <;> omega
/-- one bit, turned, is a data bit or not -/
def kc_db (j a : Nat) : Nat := if 15 ≤ (a + 5 * j) % 31 then 1 else 0
theorem kc_db_eq : ∀ j, j < 7 → ∀ a, a < 31 → kc_d 16 (kc_u (5 * j) (2 ^ a)) = kc_db j a := by decide +kernel
set_option maxRecDepth 100000 in
theorem kc_db_3 : ∀ a, a < 31 → ∀ b, b < 31 → ∀ c, c < 31 → ∃ j, j < 7 ∧ kc_db j a + kc_db j b + kc_db j c ≤ 1 := by decide +kernel
/-- the patterns of at most three bits: 0, one, two, three powers -/
def kc_pat (e : Nat) : Prop := e = 0 ∨ (∃ a, a < 31 ∧ e = 2 ^ a) ∨ (∃ a b, b < a ∧ a < 31 ∧ e = 2 ^ a ^^^ 2 ^ b) ∨ ∃ a b c, c < b ∧ b < a ∧ a < 31 ∧ e = 2 ^ a ^^^ 2 ^ b ^^^ 2 ^ c
theorem kc_u0 : ∀ j, j < 7 → kc_d 16 (kc_u (5 * j) 0) = 0 := by decide +kernel
theorem kc_pat_turn {e : Nat} (h : kc_pat e) : ∃ j, j < 7 ∧ kc_d 16 (kc_u (5 * j) e) ≤ 1 := by
  rcases h with rfl | ⟨a, ha, rfl⟩ | ⟨a, b, hb, ha, rfl⟩ | ⟨a, b, c, hc, hb, ha, rfl⟩
  · exact ⟨0, by decide, by rw [kc_u0 0 (by decide)]; decide⟩
  · obtain ⟨j, hj, h⟩ := kc_db_3 a ha a ha a ha
    exact ⟨j, hj, by rw [kc_db_eq j hj a ha]; omega⟩
  · obtain ⟨j, hj, h⟩ := kc_db_3 a ha b (by omega) b (by omega)
    refine ⟨j, hj, ?_⟩
    rw [kc_u_xor (by omega) (kc_pw a ha).2.2 (kc_pw b (by omega)).2.2]
    have h1 := kc_d_xor 16 (kc_u (5 * j) (2 ^ a)) (kc_u (5 * j) (2 ^ b))
    rw [kc_db_eq j hj a ha, kc_db_eq j hj b (by omega)] at h1
    omega
  · obtain ⟨j, hj, h⟩ := kc_db_3 a ha b (by omega) c (by omega)
    refine ⟨j, hj, ?_⟩
    rw [kc_u_xor (by omega) (Nat.xor_lt_two_pow (kc_pw a ha).2.2 (kc_pw b (by omega)).2.2) (kc_pw c (by omega)).2.2, kc_u_xor (by omega) (kc_pw a ha).2.2 (kc_pw b (by omega)).2.2]
    have h1 := kc_d_xor 16 (kc_u (5 * j) (2 ^ a) ^^^ kc_u (5 * j) (2 ^ b)) (kc_u (5 * j) (2 ^ c))
    have h2 := kc_d_xor 16 (kc_u (5 * j) (2 ^ a)) (kc_u (5 * j) (2 ^ b))
    rw [kc_db_eq j hj c (by omega)] at h1
    rw [kc_db_eq j hj a ha, kc_db_eq j hj b (by omega)] at h2
    omega
theorem kc_pat_lt {e : Nat} (h : kc_pat e) : e < 2 ^ 31 := by
  rcases h with rfl | ⟨a, ha, rfl⟩ | ⟨a, b, hb, ha, rfl⟩ | ⟨a, b, c, hc, hb, ha, rfl⟩
  · decide
  · exact (kc_pw a ha).2.2
  · exact Nat.xor_lt_two_pow (kc_pw a ha).2.2 (kc_pw b (by omega)).2.2
  · exact Nat.xor_lt_two_pow (Nat.xor_lt_two_pow (kc_pw a ha).2.2 (kc_pw b (by omega)).2.2) (kc_pw c (by omega)).2.2
theorem kc_pat_p {e : Nat} (h : kc_pat e) : kc_p 31 e ≤ 3 := by
  rcases h with rfl | ⟨a, ha, rfl⟩ | ⟨a, b, hb, ha, rfl⟩ | ⟨a, b, c, hc, hb, ha, rfl⟩
  · decide
  · rw [(kc_pw a ha).2.1]
    decide
  · have h1 := kc_p_xor 31 (2 ^ a) (2 ^ b)
    rw [(kc_pw a ha).2.1, (kc_pw b (by omega)).2.1] at h1
    omega
  · have h1 := kc_p_xor 31 (2 ^ a ^^^ 2 ^ b) (2 ^ c)
    have h2 := kc_p_xor 31 (2 ^ a) (2 ^ b)
    rw [(kc_pw c (by omega)).2.1] at h1
    rw [(kc_pw a ha).2.1, (kc_pw b (by omega)).2.1] at h2
    omega
theorem kc_e_any {w : Nat} : ∀ {n t j : Nat}, j < n → (∃ e, kc_e1 (kc_u (t + 5 * j) w) = some e) → ∃ c, kc_e w n t = some c := by
  intro n
  induction n with
  | zero => intro t j hj; omega
  | succ n ih =>
    intro t j hj h
    simp only [kc_e]
    cases he : kc_e1 (kc_u t w) with
    | some e => exact ⟨_, rfl⟩
    | none =>
      cases j with
      | zero =>
        obtain ⟨e, h⟩ := h
        rw [Nat.mul_zero, Nat.add_zero, he] at h
        cases h
      | succ j =>
        refine ih (j := j) (by omega) ?_
        rwa [show t + 5 + 5 * j = t + 5 * (j + 1) by omega]
/-- mending finds a word of the code wherever one is at most three bits away -/
theorem kc_mend_any {w e : Nat} (hw : w < 2 ^ 31) (he : kc_pat e) (h0 : kc_l 31 (w ^^^ e) = 0) : ∃ c, kc_e w 7 0 = some c := by
  obtain ⟨j, hj, hd⟩ := kc_pat_turn he
  have hlt := kc_pat_lt he
  refine kc_e_any (j := j) hj (kc_e1_any (f := kc_u (5 * j) e) (kc_u_lt _ _) ?_ ?_ hd)
  · rw [Nat.zero_add, ← kc_u_xor (by omega) hw hlt]
    exact kc_u_code (Nat.xor_lt_two_pow hw hlt) h0 (by omega)
  · rw [kc_u_p (by omega) hlt]
    exact kc_pat_p he
/-- the topmost bit, and the rest -/
theorem kc_p_top : ∀ {n e k : Nat}, e < 2 ^ n → kc_p n e = k + 1 → ∃ a e', a < n ∧ e = 2 ^ a ^^^ e' ∧ e' < 2 ^ a ∧ kc_p a e' = k := by
  intro n
  induction n with
  | zero => intro e k _ h; cases h
  | succ n ih =>
    intro e k he h
    simp only [kc_p] at h
    by_cases hb : e.testBit n = true
    · rw [if_pos hb] at h
      have h1 : e ^^^ 2 ^ n < 2 ^ n := by
        apply Nat.lt_pow_two_of_testBit
        intro i hi
        rw [Nat.testBit_xor, Nat.testBit_two_pow]
        by_cases h2 : i = n
        · rw [h2, hb, decide_eq_true rfl]
          rfl
        · rw [Nat.testBit_lt_two_pow (Nat.lt_of_lt_of_le he (Nat.pow_le_pow_right (by decide) (by omega))), decide_eq_false (fun e => h2 e.symm)]
          rfl
      refine ⟨n, e ^^^ 2 ^ n, by omega, ?_, h1, ?_⟩
      · rw [Nat.xor_comm, kc_xx]
      · rw [← Nat.add_right_cancel h]
        refine kc_p_eq (fun i hi => ?_)
        rw [Nat.testBit_xor, Nat.testBit_two_pow, decide_eq_false (by omega), Bool.xor_false]
    · rw [if_neg hb] at h
      obtain ⟨a, e', h1, h2, h3, h4⟩ := ih (kc_top he (by simpa using hb)) (by omega)
      exact ⟨a, e', by omega, h2, h3, h4⟩
theorem kc_p_0 : ∀ {n e : Nat}, e < 2 ^ n → kc_p n e = 0 → e = 0 := by
  intro n
  induction n with
  | zero => intro e he _; simpa using he
  | succ n ih =>
    intro e he h
    simp only [kc_p] at h
    by_cases hb : e.testBit n = true
    · rw [if_pos hb] at h
      omega
    · rw [if_neg hb] at h
      exact ih (kc_top he (by simpa using hb)) (by omega)
/-- a pattern of at most three bits is one of those -/
theorem kc_pat_of {e : Nat} (he : e < 2 ^ 31) (hp : kc_p 31 e ≤ 3) : kc_pat e ∧ (kc_p 31 e = 0 → e = 0) := by
  refine ⟨?_, kc_p_0 he⟩
  cases h0 : kc_p 31 e with
  | zero => exact Or.inl (kc_p_0 he h0)
  | succ k =>
    obtain ⟨a, e1, ha, rfl, h1, hk⟩ := kc_p_top he h0
    cases hk' : k with
    | zero =>
      rw [hk'] at hk
      rw [kc_p_0 h1 hk, Nat.xor_zero]
      exact Or.inr (Or.inl ⟨a, ha, rfl⟩)
    | succ k2 =>
      rw [hk'] at hk
      obtain ⟨b, e2, hb, rfl, h2, hk2⟩ := kc_p_top h1 hk
      cases hk2' : k2 with
      | zero =>
        rw [hk2'] at hk2
        rw [kc_p_0 h2 hk2, Nat.xor_zero]
        exact Or.inr (Or.inr (Or.inl ⟨a, b, hb, ha, rfl⟩))
      | succ k3 =>
        rw [hk2'] at hk2
        obtain ⟨c, e3, hc, rfl, h3, hk3⟩ := kc_p_top h2 hk2
        have h4 : k3 = 0 := by omega
        rw [h4] at hk3
        rw [kc_p_0 h3 hk3, Nat.xor_zero]
        refine Or.inr (Or.inr (Or.inr ⟨a, b, c, hc, hb, ha, ?_⟩))
        exact kc_x2 _ _ _
