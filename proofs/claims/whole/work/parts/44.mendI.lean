/-! Mending. -/
theorem kn_tx : ∀ k, k < 31 → f_C_timesX (nI (kc_t k)) = some (nI (kc_t (k + 1))) := by decide +kernel
def kv1 (v : Nat) : Option Nat → Int32
  | some e => nI (v ^^^ e)
  | none => -1
theorem kn_m1_H {v wr : Nat} (hwr : wr < 2 ^ 15) (j : Nat) : ∀ k n, k + j = 31 → 15 ≤ k → j < n → f_C_mendOneInData_H n (nI v) (nI wr) (nI (kc_t k)) (nI k) = some (kv1 v ((kc_f wr j k).map (fun q => q.2 ^^^ 2 ^ q.1))) := by
  induction j with
  | zero =>
    intro k n hk h15 hn
    obtain ⟨n, rfl⟩ : ∃ m, n = m + 1 := ⟨n - 1, by omega⟩
    have : k = 31 := by omega
    subst this
    simp only [f_C_mendOneInData_H]
    rw [if_pos (show (31 : Int32) ≤ nI 31 by decide)]
    rfl
  | succ j ih =>
    intro k n hk h15 hn
    obtain ⟨n, rfl⟩ : ∃ m, n = m + 1 := ⟨n - 1, by omega⟩
    simp only [f_C_mendOneInData_H]
    have hx : wr ^^^ kc_t k < 2 ^ 15 := Nat.xor_lt_two_pow hwr (kc_t_lt k (by omega))
    have hp : kc_p 31 (wr ^^^ kc_t k) ≤ 31 := kc_p_31 31 _
    rw [if_neg (show ¬ (31 : Int32) ≤ nI k from nI_ge (b := 31) (by omega) (by decide)), kn_xor, kn_bcN (Nat.lt_of_lt_of_le hx (by decide)), kc_bc15 hx]
    show (if (3 : Int32) ≤ nI (kc_p 31 (wr ^^^ kc_t k)) then _ else _) = _
    by_cases h3 : kc_p 31 (wr ^^^ kc_t k) < 3
    · rw [if_neg (show ¬ (3 : Int32) ≤ nI _ from nI_ge (b := 3) h3 (by decide)), kn_pow k (by omega), kn_xor, kn_xor]
      simp only [kc_f, if_pos h3, Option.map_some, kv1, Nat.xor_assoc]
    · rw [if_pos (show (3 : Int32) ≤ nI _ from nI_le (a := 3) (by omega) (by omega)), kn_tx k (by omega)]
      show f_C_mendOneInData_H n (nI v) (nI wr) (nI (kc_t (k + 1))) (nI k + 1) = _
      rw [nI_1, ih (k + 1) n (by omega) (by omega) (by omega)]
      simp only [kc_f, if_neg h3]
theorem kn_m1 {v : Nat} (hv : v < 2 ^ 31) : f_C_mendOneInData (nI v) = some (kv1 v (kc_e1 v)) := by
  unfold f_C_mendOneInData
  have hl := kc_l_lt31 v
  rw [kn_rem hv, Option.bind_some, kn_bcN (Nat.lt_of_lt_of_le hl (by decide)), kc_bc15 hl]
  show (if (3 : Int32) < nI (kc_p 31 (kc_l 31 v)) then _ else _) = _
  have hp : kc_p 31 (kc_l 31 v) ≤ 31 := kc_p_31 31 _
  unfold kc_e1
  by_cases h3 : kc_p 31 (kc_l 31 v) ≤ 3
  · rw [if_neg (show ¬ (3 : Int32) < nI _ from nI_nlt (a := 3) h3 (by decide)), if_pos h3, kn_xor]
    rfl
  · rw [if_pos (show (3 : Int32) < nI _ from nI_lt (a := 3) (by omega) (by omega)), if_neg h3]
    exact kn_m1_H hl 16 15 100 (by decide) (by decide) (by decide)
theorem kn_turn {w t : Nat} (hw : w < 2 ^ 31) (ht : t ≤ 31) : f_C_turned (nI w) (nI t) = some (nI (kc_u t w)) := by
  unfold f_C_turned
  have e1 : (31 : Int32) - nI t = nI (31 - t) := pk_sub (a := 31) ht
  rw [e1, kn_shlw w (by omega), kn_ushr (by omega) (by omega), kn_or]
  show some (nI _ &&& nI 2147483647) = _
  rw [kn_and]
  unfold kc_u
  rw [Nat.shiftLeft_eq, Nat.shiftRight_eq_div_pow, show (2147483647 : Nat) = 2 ^ 31 - 1 by decide, Nat.and_two_pow_sub_one_eq_mod]
def kvm : Option Nat → Int32
  | some c => nI c
  | none => -1
theorem kn_mend_H {w : Nat} (hw : w < 2 ^ 31) (j : Nat) : ∀ t n, t + 5 * j = 35 → j < n → f_C_mend_H n (nI w) (nI t) = some (kvm (kc_e w j t)) := by
  induction j with
  | zero =>
    intro t n ht hn
    obtain ⟨n, rfl⟩ : ∃ m, n = m + 1 := ⟨n - 1, by omega⟩
    have : t = 35 := by omega
    subst this
    simp only [f_C_mend_H]
    rw [if_pos (show (31 : Int32) ≤ nI 35 by decide)]
    rfl
  | succ j ih =>
    intro t n ht hn
    obtain ⟨n, rfl⟩ : ∃ m, n = m + 1 := ⟨n - 1, by omega⟩
    simp only [f_C_mend_H]
    rw [if_neg (show ¬ (31 : Int32) ≤ nI t from nI_ge (b := 31) (by omega) (by decide)), kn_turn hw (by omega)]
    show (f_C_mendOneInData (nI (kc_u t w))).bind _ = _
    rw [kn_m1 (kc_u_lt t w)]
    show (if kv1 (kc_u t w) (kc_e1 (kc_u t w)) = (-1 : Int32) then _ else _) = _
    cases he : kc_e1 (kc_u t w) with
    | none =>
      rw [if_pos (show kv1 (kc_u t w) none = (-1 : Int32) from rfl), show nI t + (5 : Int32) = nI (t + 5) from nI_add t 5, ih (t + 5) n (by omega) (by omega)]
      simp only [kc_e, he]
    | some e =>
      have hlt : kc_u t w ^^^ e < 2 ^ 31 := Nat.xor_lt_two_pow (kc_u_lt t w) (kc_e1_some he).2.2
      rw [if_neg (show ¬ kv1 (kc_u t w) (some e) = (-1 : Int32) from kn_neg1 hlt), show (31 : Int32) - nI t = nI (31 - t) from pk_sub (a := 31) (by omega)]
      show (f_C_turned (nI (kc_u t w ^^^ e)) (nI (31 - t))).bind _ = _
      rw [kn_turn hlt (by omega)]
      simp only [kc_e, he]
      rfl
/-- the word of the code near w -/
def kE (w : Nat) : Option Nat := kc_e w 7 0
theorem kn_mend {w : Nat} (hw : w < 2 ^ 31) : f_C_mend (nI w) = some (kvm (kE w)) := kn_mend_H hw 7 0 100 (by decide) (by decide)
theorem kE_some {w c : Nat} (hw : w < 2 ^ 31) (h : kE w = some c) : c < 2 ^ 31 ∧ kc_l 31 c = 0 ∧ kc_p 31 (w ^^^ c) ≤ 3 := kc_e_some hw (by decide) h
/-- a pattern that mends is the one -/
theorem kE_uniq {w e : Nat} (hw : w < 2 ^ 31) (he : kc_pat e) (h0 : kc_l 31 (w ^^^ e) = 0) : kE w = some (w ^^^ e) := by
  obtain ⟨c, hc⟩ := kc_mend_any hw he h0
  obtain ⟨h1, h2, h3⟩ := kE_some hw hc
  have hx : w ^^^ c < 2 ^ 31 := Nat.xor_lt_two_pow hw h1
  have hl : kc_l 31 (w ^^^ c) = kc_l 31 e := by
    rw [kc_l_xor] at h0 ⊢
    rw [h2, Nat.xor_zero]
    exact kc_x0 h0
  have := kc_one hx (kc_pat_lt he) h3 (kc_pat_p he) hl
  show kc_e w 7 0 = _
  rw [hc, ← this, ← Nat.xor_assoc, Nat.xor_self, Nat.zero_xor]
/-- what the reference says of a word -/
def kvd (w : Nat) : Option Nat → Int32 × Int32
  | some c => (nI (c / 2 ^ 15), nI (kc_p 31 (w ^^^ c)))
  | none => (-1, 0)
theorem kn_d5 {rm : Nat → Int32} (hr : kR rm) {w r : Nat} (hw : w < 2 ^ 31) (hrl : r < 2 ^ 15) {R : Option (Int32 × Int32)} (H3 : ∀ a b c, c < b → b < a → a < 31 → kc_t a ^^^ kc_t b ^^^ r = kc_t c → R = some (nI ((w ^^^ 2 ^ a ^^^ 2 ^ b ^^^ 2 ^ c) / 2 ^ 15), 3)) {a b m : Nat} (hb : b < a) (ha : a < 31)
    (K : (∀ c, c < b → ¬ kc_t a ^^^ kc_t b ^^^ r = kc_t c) → ∀ n, m ≤ n → f_R_dataOf_H n rm 0 4 (nI w) (nI r) (nI a) (nI (b + 1)) 0 0 = R) (j : Nat) :
    ∀ c n, c + j = b → (∀ c', c' < c → ¬ kc_t a ^^^ kc_t b ^^^ r = kc_t c') → m + j + 1 ≤ n → f_R_dataOf_H n rm 0 5 (nI w) (nI r) (nI a) (nI b) (nI (kc_t a ^^^ kc_t b ^^^ r)) (nI c) = R := by
  induction j with
  | zero =>
    intro c n hc hno hn
    obtain ⟨n, rfl⟩ : ∃ m, n = m + 1 := ⟨n - 1, by omega⟩
    have : c = b := by omega
    subst this
    simp only [f_R_dataOf_H]
    rw [if_pos (nI_le (Nat.le_refl _) (by omega)), nI_1]
    exact K hno n (by omega)
  | succ j ih =>
    intro c n hc hno hn
    obtain ⟨n, rfl⟩ : ∃ m, n = m + 1 := ⟨n - 1, by omega⟩
    simp only [f_R_dataOf_H]
    have ht := kc_t_lt c (by omega)
    have hx : kc_t a ^^^ kc_t b ^^^ r < 2 ^ 15 := Nat.xor_lt_two_pow (Nat.xor_lt_two_pow (kc_t_lt a ha) (kc_t_lt b (by omega))) hrl
    rw [if_neg (nI_ge (a := c) (b := b) (by omega) (by omega)), if_neg (nI_in (by omega) (by decide)), nI_clamp (by omega), hr c (by omega)]
    by_cases hm : kc_t c = kc_t a ^^^ kc_t b ^^^ r
    · rw [if_pos (congrArg nI hm), kn_pow a ha, kn_pow b (by omega), kn_pow c (by omega), kn_xor, kn_xor, kn_xor]
      have hl : w ^^^ 2 ^ a ^^^ 2 ^ b ^^^ 2 ^ c < 2 ^ 31 := Nat.xor_lt_two_pow (Nat.xor_lt_two_pow (Nat.xor_lt_two_pow hw (kc_pw a ha).2.2) (kc_pw b (by omega)).2.2) (kc_pw c (by omega)).2.2
      rw [show nI (w ^^^ 2 ^ a ^^^ 2 ^ b ^^^ 2 ^ c) >>> ((15 : Int32) &&& 31) = nI ((w ^^^ 2 ^ a ^^^ 2 ^ b ^^^ 2 ^ c) / 2 ^ 15) from kn_shr hl (k := 15) (by decide)]
      exact (H3 a b c (by omega) hb ha hm.symm).symm
    · rw [if_neg (fun e => hm ((nI_eq (by omega) (by omega)).mp e)), nI_1]
      refine ih (c + 1) n (by omega) (fun c' hc' => ?_) (by omega)
      by_cases h : c' = c
      · rw [h]
        exact fun e => hm e.symm
      · exact hno c' (by omega)
theorem kn_d4 {rm : Nat → Int32} (hr : kR rm) {w r : Nat} (hw : w < 2 ^ 31) (hrl : r < 2 ^ 15) {R : Option (Int32 × Int32)} (H3 : ∀ a b c, c < b → b < a → a < 31 → kc_t a ^^^ kc_t b ^^^ r = kc_t c → R = some (nI ((w ^^^ 2 ^ a ^^^ 2 ^ b ^^^ 2 ^ c) / 2 ^ 15), 3)) {a m : Nat} (ha : a < 31)
    (K : (∀ b, b < a → ∀ c, c < b → ¬ kc_t a ^^^ kc_t b ^^^ r = kc_t c) → ∀ n, m ≤ n → f_R_dataOf_H n rm 0 3 (nI w) (nI r) (nI (a + 1)) 0 0 0 = R) (j : Nat) :
    ∀ b n, b + j = a → (∀ b', b' < b → ∀ c, c < b' → ¬ kc_t a ^^^ kc_t b' ^^^ r = kc_t c) → m + 34 * j + 1 ≤ n → f_R_dataOf_H n rm 0 4 (nI w) (nI r) (nI a) (nI b) 0 0 = R := by
  induction j with
  | zero =>
    intro b n hb hno hn
    obtain ⟨n, rfl⟩ : ∃ m, n = m + 1 := ⟨n - 1, by omega⟩
    have : b = a := by omega
    subst this
    simp only [f_R_dataOf_H]
    rw [if_pos (nI_le (Nat.le_refl _) (by omega)), nI_1]
    exact K hno n (by omega)
  | succ j ih =>
    intro b n hb hno hn
    obtain ⟨n, rfl⟩ : ∃ m, n = m + 1 := ⟨n - 1, by omega⟩
    simp only [f_R_dataOf_H]
    rw [if_neg (nI_ge (a := b) (b := a) (by omega) (by omega)), if_neg (nI_in (by omega) (by decide)), if_neg (nI_in (by omega) (by decide)), nI_clamp (by omega), nI_clamp (by omega), hr a ha, hr b (by omega), kn_xor, kn_xor]
    refine kn_d5 hr hw hrl H3 (m := m + 34 * j + 1) (by omega) ha (fun h5 n' hn' => ih (b + 1) n' (by omega) (fun b' hb' => ?_) hn') b 0 n (by omega) (fun c' hc' => by omega) (by omega)
    by_cases h : b' = b
    · rw [h]
      exact h5
    · exact hno b' (by omega)
theorem kn_d3 {rm : Nat → Int32} (hr : kR rm) {w r : Nat} (hw : w < 2 ^ 31) (hrl : r < 2 ^ 15) {R : Option (Int32 × Int32)} (H3 : ∀ a b c, c < b → b < a → a < 31 → kc_t a ^^^ kc_t b ^^^ r = kc_t c → R = some (nI ((w ^^^ 2 ^ a ^^^ 2 ^ b ^^^ 2 ^ c) / 2 ^ 15), 3))
    (K : (∀ a, a < 31 → ∀ b, b < a → ∀ c, c < b → ¬ kc_t a ^^^ kc_t b ^^^ r = kc_t c) → R = some (-1, 0)) (j : Nat) :
    ∀ a n, a + j = 31 → (∀ a', a' < a → ∀ b, b < a' → ∀ c, c < b → ¬ kc_t a' ^^^ kc_t b ^^^ r = kc_t c) → 1100 * j + 1 ≤ n → f_R_dataOf_H n rm 0 3 (nI w) (nI r) (nI a) 0 0 0 = R := by
  induction j with
  | zero =>
    intro a n ha hno hn
    obtain ⟨n, rfl⟩ : ∃ m, n = m + 1 := ⟨n - 1, by omega⟩
    have : a = 31 := by omega
    subst this
    simp only [f_R_dataOf_H]
    rw [if_pos (show (31 : Int32) ≤ nI 31 by decide)]
    exact (K hno).symm
  | succ j ih =>
    intro a n ha hno hn
    obtain ⟨n, rfl⟩ : ∃ m, n = m + 1 := ⟨n - 1, by omega⟩
    simp only [f_R_dataOf_H]
    rw [if_neg (show ¬ (31 : Int32) ≤ nI a from nI_ge (b := 31) (by omega) (by decide))]
    refine kn_d4 hr hw hrl H3 (m := 1100 * j + 1) (by omega) (fun h4 n' hn' => ih (a + 1) n' (by omega) (fun a' ha' => ?_) hn') a 0 n (by omega) (fun b' hb' => by omega) (by omega)
    by_cases h : a' = a
    · rw [h]
      exact h4
    · exact hno a' (by omega)
theorem kn_d2 {rm : Nat → Int32} (hr : kR rm) {w r : Nat} (hw : w < 2 ^ 31) (hrl : r < 2 ^ 15) {R : Option (Int32 × Int32)} (H2 : ∀ a b, b < a → a < 31 → kc_t a ^^^ kc_t b = r → R = some (nI ((w ^^^ 2 ^ a ^^^ 2 ^ b) / 2 ^ 15), 2)) {a m : Nat} (ha : a < 31)
    (K : (∀ b, b < a → ¬ kc_t a ^^^ kc_t b = r) → ∀ n, m ≤ n → f_R_dataOf_H n rm 0 1 (nI w) (nI r) (nI (a + 1)) 0 0 0 = R) (j : Nat) :
    ∀ b n, b + j = a → (∀ b', b' < b → ¬ kc_t a ^^^ kc_t b' = r) → m + j + 1 ≤ n → f_R_dataOf_H n rm 0 2 (nI w) (nI r) (nI a) (nI b) 0 0 = R := by
  induction j with
  | zero =>
    intro b n hb hno hn
    obtain ⟨n, rfl⟩ : ∃ m, n = m + 1 := ⟨n - 1, by omega⟩
    have : b = a := by omega
    subst this
    simp only [f_R_dataOf_H]
    rw [if_pos (nI_le (Nat.le_refl _) (by omega)), nI_1]
    exact K hno n (by omega)
  | succ j ih =>
    intro b n hb hno hn
    obtain ⟨n, rfl⟩ : ∃ m, n = m + 1 := ⟨n - 1, by omega⟩
    simp only [f_R_dataOf_H]
    have hx : kc_t a ^^^ kc_t b < 2 ^ 15 := Nat.xor_lt_two_pow (kc_t_lt a ha) (kc_t_lt b (by omega))
    rw [if_neg (nI_ge (a := b) (b := a) (by omega) (by omega)), if_neg (nI_in (by omega) (by decide)), if_neg (nI_in (by omega) (by decide)), nI_clamp (by omega), nI_clamp (by omega), hr a ha, hr b (by omega), kn_xor]
    by_cases hm : kc_t a ^^^ kc_t b = r
    · rw [if_pos (congrArg nI hm), kn_pow a ha, kn_pow b (by omega), kn_xor, kn_xor]
      have hl : w ^^^ 2 ^ a ^^^ 2 ^ b < 2 ^ 31 := Nat.xor_lt_two_pow (Nat.xor_lt_two_pow hw (kc_pw a ha).2.2) (kc_pw b (by omega)).2.2
      rw [show nI (w ^^^ 2 ^ a ^^^ 2 ^ b) >>> ((15 : Int32) &&& 31) = nI ((w ^^^ 2 ^ a ^^^ 2 ^ b) / 2 ^ 15) from kn_shr hl (k := 15) (by decide)]
      exact (H2 a b (by omega) ha hm).symm
    · rw [if_neg (fun e => hm ((nI_eq (by omega) (by omega)).mp e)), nI_1]
      refine ih (b + 1) n (by omega) (fun b' hb' => ?_) (by omega)
      by_cases h : b' = b
      · rw [h]
        exact hm
      · exact hno b' (by omega)
theorem kn_d1 {rm : Nat → Int32} (hr : kR rm) {w r : Nat} (hw : w < 2 ^ 31) (hrl : r < 2 ^ 15) {R : Option (Int32 × Int32)} (H2 : ∀ a b, b < a → a < 31 → kc_t a ^^^ kc_t b = r → R = some (nI ((w ^^^ 2 ^ a ^^^ 2 ^ b) / 2 ^ 15), 2)) {m : Nat}
    (K : (∀ a, a < 31 → ∀ b, b < a → ¬ kc_t a ^^^ kc_t b = r) → ∀ n, m ≤ n → f_R_dataOf_H n rm 0 3 (nI w) (nI r) 0 0 0 0 = R) (j : Nat) :
    ∀ a n, a + j = 31 → (∀ a', a' < a → ∀ b, b < a' → ¬ kc_t a' ^^^ kc_t b = r) → m + 34 * j + 1 ≤ n → f_R_dataOf_H n rm 0 1 (nI w) (nI r) (nI a) 0 0 0 = R := by
  induction j with
  | zero =>
    intro a n ha hno hn
    obtain ⟨n, rfl⟩ : ∃ m, n = m + 1 := ⟨n - 1, by omega⟩
    have : a = 31 := by omega
    subst this
    simp only [f_R_dataOf_H]
    rw [if_pos (show (31 : Int32) ≤ nI 31 by decide)]
    exact K hno n (by omega)
  | succ j ih =>
    intro a n ha hno hn
    obtain ⟨n, rfl⟩ : ∃ m, n = m + 1 := ⟨n - 1, by omega⟩
    simp only [f_R_dataOf_H]
    rw [if_neg (show ¬ (31 : Int32) ≤ nI a from nI_ge (b := 31) (by omega) (by decide))]
    refine kn_d2 hr hw hrl H2 (m := m + 34 * j + 1) (by omega) (fun h4 n' hn' => ih (a + 1) n' (by omega) (fun a' ha' => ?_) hn') a 0 n (by omega) (fun b' hb' => by omega) (by omega)
    by_cases h : a' = a
    · rw [h]
      exact h4
    · exact hno a' (by omega)
theorem kn_d0 {rm : Nat → Int32} (hr : kR rm) {w r : Nat} (hw : w < 2 ^ 31) (hrl : r < 2 ^ 15) {R : Option (Int32 × Int32)} (H1 : ∀ a, a < 31 → kc_t a = r → R = some (nI ((w ^^^ 2 ^ a) / 2 ^ 15), 1)) {m : Nat}
    (K : (∀ a, a < 31 → ¬ kc_t a = r) → ∀ n, m ≤ n → f_R_dataOf_H n rm 0 1 (nI w) (nI r) 0 0 0 0 = R) (j : Nat) :
    ∀ a n, a + j = 31 → (∀ a', a' < a → ¬ kc_t a' = r) → m + j + 1 ≤ n → f_R_dataOf_H n rm 0 0 (nI w) (nI r) (nI a) 0 0 0 = R := by
  induction j with
  | zero =>
    intro a n ha hno hn
    obtain ⟨n, rfl⟩ : ∃ m, n = m + 1 := ⟨n - 1, by omega⟩
    have : a = 31 := by omega
    subst this
    simp only [f_R_dataOf_H]
    rw [if_pos (show (31 : Int32) ≤ nI 31 by decide)]
    exact K hno n (by omega)
  | succ j ih =>
    intro a n ha hno hn
    obtain ⟨n, rfl⟩ : ∃ m, n = m + 1 := ⟨n - 1, by omega⟩
    simp only [f_R_dataOf_H]
    have ht := kc_t_lt a (by omega)
    rw [if_neg (show ¬ (31 : Int32) ≤ nI a from nI_ge (b := 31) (by omega) (by decide)), if_neg (nI_in (by omega) (by decide)), nI_clamp (by omega), hr a (by omega)]
    by_cases hm : kc_t a = r
    · rw [if_pos (congrArg nI hm), kn_pow a (by omega), kn_xor]
      have hl : w ^^^ 2 ^ a < 2 ^ 31 := Nat.xor_lt_two_pow hw (kc_pw a (by omega)).2.2
      rw [show nI (w ^^^ 2 ^ a) >>> ((15 : Int32) &&& 31) = nI ((w ^^^ 2 ^ a) / 2 ^ 15) from kn_shr hl (k := 15) (by decide)]
      exact (H1 a (by omega) hm).symm
    · rw [if_neg (fun e => hm ((nI_eq (by omega) (by omega)).mp e)), nI_1]
      refine ih (a + 1) n (by omega) (fun a' ha' => ?_) (by omega)
      by_cases h : a' = a
      · rw [h]
        exact hm
      · exact hno a' (by omega)
/-- the reference's reading of a word -/
theorem kn_data {rm : Nat → Int32} (hr : kR rm) (wr : Int32) {w : Nat} (hw : w < 2 ^ 31) : f_R_dataOf rm wr (nI w) = some (kvd w (kE w)) := by
  unfold f_R_dataOf
  have hrl := kc_l_lt31 w
  rw [kn_left hr hw]
  show (if nI (kc_l 31 w) = 0 then _ else _) = _
  generalize hre : kc_l 31 w = r at hrl
  have hit : ∀ e, kc_pat e → kc_l 31 e = r → some (kvd w (kE w)) = some (nI ((w ^^^ e) / 2 ^ 15), nI (kc_p 31 e)) := fun e he h => by
    have h1 := kE_uniq hw he (by rw [kc_l_xor, hre, h, Nat.xor_self])
    rw [h1]
    simp only [kvd]
    rw [← Nat.xor_assoc, Nat.xor_self, Nat.zero_xor]
  by_cases h0 : r = 0
  · rw [if_pos (by rw [h0]; rfl)]
    have := hit 0 (Or.inl rfl) (by rw [h0]; decide)
    rw [this, Nat.xor_zero, show nI w >>> ((15 : Int32) &&& 31) = nI (w / 2 ^ 15) from kn_shr hw (k := 15) (by decide)]
    rfl
  · rw [if_neg (fun e => h0 ((kn_zero (by omega)).mp e))]
    have P1 : ∀ a, a < 31 → kc_t a = r → some (kvd w (kE w)) = some (nI ((w ^^^ 2 ^ a) / 2 ^ 15), 1) := fun a ha h => by
      have := hit (2 ^ a) (Or.inr (Or.inl ⟨a, ha, rfl⟩)) (by rw [(kc_pw a ha).1, h])
      rw [this, (kc_pw a ha).2.1]
      rfl
    have P2 : ∀ a b, b < a → a < 31 → kc_t a ^^^ kc_t b = r → some (kvd w (kE w)) = some (nI ((w ^^^ 2 ^ a ^^^ 2 ^ b) / 2 ^ 15), 2) := fun a b hb ha h => by
      have := hit (2 ^ a ^^^ 2 ^ b) (Or.inr (Or.inr (Or.inl ⟨a, b, hb, ha, rfl⟩))) (by rw [kc_l_xor, (kc_pw a ha).1, (kc_pw b (by omega)).1, h])
      rw [this, (kc_p3 a ha b hb).1, Nat.xor_assoc]
      rfl
    have P3 : ∀ a b c, c < b → b < a → a < 31 → kc_t a ^^^ kc_t b ^^^ r = kc_t c → some (kvd w (kE w)) = some (nI ((w ^^^ 2 ^ a ^^^ 2 ^ b ^^^ 2 ^ c) / 2 ^ 15), 3) := fun a b c hc hb ha h => by
      have hl : kc_l 31 (2 ^ a ^^^ 2 ^ b ^^^ 2 ^ c) = r := by
        rw [kc_l_xor, kc_l_xor, (kc_pw a ha).1, (kc_pw b (by omega)).1, (kc_pw c (by omega)).1, ← h, ← Nat.xor_assoc, Nat.xor_self, Nat.zero_xor]
      have := hit (2 ^ a ^^^ 2 ^ b ^^^ 2 ^ c) (Or.inr (Or.inr (Or.inr ⟨a, b, c, hc, hb, ha, rfl⟩))) hl
      rw [this, (kc_p3 a ha b hb).2 c hc, Nat.xor_assoc, Nat.xor_assoc, Nat.xor_assoc]
      rfl
    refine kn_d0 hr hw hrl P1 (m := 36000) (fun n1 n hn => ?_) 31 0 40000 (by decide) (fun a' h => by omega) (by decide)
    refine kn_d1 hr hw hrl P2 (m := 34200) (fun n2 n hn => ?_) 31 0 n (by decide) (fun a' h => by omega) (by omega)
    refine kn_d3 hr hw hrl P3 (fun n3 => ?_) 31 0 n (by decide) (fun a' h => by omega) (by omega)
    cases hc : kE w with
    | none => rfl
    | some c =>
      exfalso
      obtain ⟨h1, h2, h3⟩ := kE_some hw hc
      have hx : kc_l 31 (w ^^^ c) = r := by rw [kc_l_xor, h2, Nat.xor_zero, hre]
      rcases (kc_pat_of (Nat.xor_lt_two_pow hw h1) h3).1 with h | ⟨a, ha, h⟩ | ⟨a, b, hb, ha, h⟩ | ⟨a, b, c', hc', hb, ha, h⟩
      · rw [h] at hx
        exact h0 (hx.symm.trans (by decide))
      · rw [h, (kc_pw a ha).1] at hx
        exact n1 a ha hx
      · rw [h, kc_l_xor, (kc_pw a ha).1, (kc_pw b (by omega)).1] at hx
        exact n2 a ha b hb hx
      · rw [h, kc_l_xor, kc_l_xor, (kc_pw a ha).1, (kc_pw b (by omega)).1, (kc_pw c' (by omega)).1] at hx
        refine n3 a ha b hb c' hc' ?_
        rw [← hx, ← Nat.xor_assoc, Nat.xor_self, Nat.zero_xor]
