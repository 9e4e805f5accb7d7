/-! The store by numbers: counts, the place for a page, the block to clean. -/
/-- how many pages of block b are in the state u -/
def kN (f : Nat → Int32) (b : Nat) (u : Int32) : Nat := (if f (4 * b + 0) = u then 1 else 0) + (if f (4 * b + 1) = u then 1 else 0) + (if f (4 * b + 2) = u then 1 else 0) + (if f (4 * b + 3) = u then 1 else 0)
theorem kN_le (f : Nat → Int32) (b : Nat) (u : Int32) : kN f b u ≤ 4 := by
  unfold kN
  split <;> split <;> split <;> split <;> decide
theorem ks_idx (b k : Nat) : nI b * (4 : Int32) + nI k = nI (4 * b + k) := by
  rw [show nI b * (4 : Int32) = nI (b * 4) from pk_mul b 4, nI_add, Nat.mul_comm]
theorem ks_idx' (b k : Nat) : (4 : Int32) * nI b + nI k = nI (4 * b + k) := by
  rw [show (4 : Int32) * nI b = nI (4 * b) from pk_mul 4 b, nI_add]
theorem ks_cntF (f : Nat → Int32) {b : Nat} (hb : b < 4) (u : Int32) : f_F_countInBlock f (nI b) u = some (nI (kN f b u)) := by
  have step : ∀ (n acc k : Nat), k < 4 → f_F_countInBlock_H (n + 1) f (nI b) u (nI acc) (nI k) = f_F_countInBlock_H n f (nI b) u (nI (acc + if f (4 * b + k) = u then 1 else 0)) (nI (k + 1)) := by
    intro n acc k hk
    simp only [f_F_countInBlock_H, f_F_countInBlock_J32, f_F_placeOf, Option.bind_some]
    rw [if_neg (show ¬ (4 : Int32) ≤ nI k from nI_ge (b := 4) hk (by decide)), ks_idx, if_neg (nI_in (by omega) (by decide)), nI_clamp (by omega), nI_1 k]
    by_cases h : f (4 * b + k) = u
    · rw [if_pos h, if_pos h, show nI acc + (1 : Int32) = nI (acc + 1) from nI_1 acc]
    · rw [if_neg h, if_neg h, show nI acc + (0 : Int32) = nI (acc + 0) from nI_add acc 0]
  show f_F_countInBlock_H (99 + 1) f (nI b) u (nI 0) (nI 0) = _
  rw [step 99 _ 0 (by decide), step 98 _ 1 (by decide), step 97 _ 2 (by decide), step 96 _ 3 (by decide)]
  rw [f_F_countInBlock_H, if_pos (show (4 : Int32) ≤ nI (3 + 1) by decide), Nat.zero_add]
  rfl
theorem ks_cntR (f : Nat → Int32) {b : Nat} (hb : b < 4) (u : Int32) : f_R_count f (nI b) u = some (nI (kN f b u)) := by
  have step : ∀ (n acc k : Nat), k < 4 → f_R_count_H (n + 1) f (nI b) u (nI acc) (nI k) = f_R_count_H n f (nI b) u (nI (acc + if f (4 * b + k) = u then 1 else 0)) (nI (k + 1)) := by
    intro n acc k hk
    simp only [f_R_count_H, f_R_count_J33]
    rw [if_neg (show ¬ (4 : Int32) ≤ nI k from nI_ge (b := 4) hk (by decide)), ks_idx', if_neg (nI_in (by omega) (by decide)), nI_clamp (by omega), nI_1 k]
    by_cases h : f (4 * b + k) = u
    · rw [if_pos h, if_pos h, show nI acc + (1 : Int32) = nI (acc + 1) from nI_1 acc]
    · rw [if_neg h, if_neg h]
      rfl
  show f_R_count_H (99 + 1) f (nI b) u (nI 0) (nI 0) = _
  rw [step 99 _ 0 (by decide), step 98 _ 1 (by decide), step 97 _ 2 (by decide), step 96 _ 3 (by decide)]
  rw [f_R_count_H, if_pos (show (4 : Int32) ≤ nI (3 + 1) by decide), Nat.zero_add]
  rfl
/-- block b is whole free -/
abbrev kW (f : Nat → Int32) (b : Nat) : Prop := kN f b 0 = 4
/-- a truth as the machine has it -/
def kB (p : Prop) [Decidable p] : Int32 := if p then 1 else 0
theorem kB_t {p : Prop} [Decidable p] (h : p) : kB p = 1 := if_pos h
theorem kB_f {p : Prop} [Decidable p] (h : ¬ p) : kB p = 0 := if_neg h
theorem kB_or (p : Prop) [Decidable p] : kB p = 0 ∨ kB p = 1 := by
  by_cases h : p
  · exact Or.inr (kB_t h)
  · exact Or.inl (kB_f h)
theorem kB_iff {p q : Prop} [Decidable p] [Decidable q] (h : p ↔ q) : kB p = kB q := by
  by_cases hp : p
  · rw [kB_t hp, kB_t (h.mp hp)]
  · rw [kB_f hp, kB_f (fun e => hp (h.mpr e))]
theorem kor4 (A B C D : Prop) [Decidable A] [Decidable B] [Decidable C] [Decidable D] : (if A then some (1 : Int32) else if B then some 1 else if C then some 1 else if D then some 1 else some 0) = some (kB (A ∨ B ∨ C ∨ D)) := by
  by_cases a : A
  · rw [if_pos a, kB_t (Or.inl a)]
  · by_cases b : B
    · rw [if_neg a, if_pos b, kB_t (Or.inr (Or.inl b))]
    · by_cases c : C
      · rw [if_neg a, if_neg b, if_pos c, kB_t (Or.inr (Or.inr (Or.inl c)))]
      · by_cases d : D
        · rw [if_neg a, if_neg b, if_neg c, if_pos d, kB_t (Or.inr (Or.inr (Or.inr d)))]
        · rw [if_neg a, if_neg b, if_neg c, if_neg d, kB_f (fun e => e.elim a (fun e => e.elim b (fun e => e.elim c d)))]
theorem kand4 (A B C D : Prop) [Decidable A] [Decidable B] [Decidable C] [Decidable D] : (if A then (if B then (if C then (if D then some (1 : Int32) else some 0) else some 0) else some 0) else some 0) = some (kB (A ∧ B ∧ C ∧ D)) := by
  by_cases a : A
  · by_cases b : B
    · by_cases c : C
      · by_cases d : D
        · rw [if_pos a, if_pos b, if_pos c, if_pos d, kB_t ⟨a, b, c, d⟩]
        · rw [if_pos a, if_pos b, if_pos c, if_neg d, kB_f (fun e => d e.2.2.2)]
      · rw [if_pos a, if_pos b, if_neg c, kB_f (fun e => c e.2.2.1)]
    · rw [if_pos a, if_neg b, kB_f (fun e => b e.2.1)]
  · rw [if_neg a, kB_f (fun e => a e.1)]
theorem ks_n4 (f : Nat → Int32) (b : Nat) (u : Int32) : nI (kN f b u) = (4 : Int32) ↔ kN f b u = 4 := nI_eq (b := 4) (Nat.lt_of_le_of_lt (kN_le f b u) (by decide)) (by decide)
theorem ks_whF (f : Nat → Int32) {b : Nat} (hb : b < 4) : f_F_isWholeFree f (nI b) = some (kB (kW f b)) := by
  unfold f_F_isWholeFree
  rw [ks_cntF f hb, Option.bind_some]
  by_cases h : kW f b
  · rw [if_pos ((ks_n4 f b 0).mpr h), kB_t h]
    rfl
  · rw [if_neg (fun e => h ((ks_n4 f b 0).mp e)), kB_f h]
    rfl
theorem ks_whR (f : Nat → Int32) {b : Nat} (hb : b < 4) : f_R_empty f (nI b) = some (kB (kW f b)) := by
  unfold f_R_empty
  rw [ks_cntR f hb, Option.bind_some]
  by_cases h : kW f b
  · rw [if_pos ((ks_n4 f b 0).mpr h), kB_t h]
    rfl
  · rw [if_neg (fun e => h ((ks_n4 f b 0).mp e)), kB_f h]
    rfl
/-! The place for a page. -/
def kA (f : Nat → Int32) (bar : Int32) (p : Nat) : Prop := f p = 0 ∧ ¬ nI (p / 4) = bar ∧ ¬ kW f (p / 4)
def kA' (f : Nat → Int32) (bar : Int32) (p : Nat) : Prop := f p = 0 ∧ ¬ nI (p / 4) = bar ∧ kW f (p / 4)
def kP (f : Nat → Int32) (bar r : Int32) : Prop :=
  (∃ p, p < 16 ∧ r = nI p ∧ kA f bar p ∧ ∀ q, q < p → ¬ kA f bar q) ∨ (∃ p, p < 16 ∧ r = nI p ∧ kA' f bar p ∧ (∀ q, q < 16 → ¬ kA f bar q) ∧ ∀ q, q < p → ¬ kA' f bar q) ∨ (r = -1 ∧ ∀ q, q < 16 → ¬ kA f bar q ∧ ¬ kA' f bar q)
theorem kP_one {f : Nat → Int32} {bar r r' : Int32} (h : kP f bar r) (h' : kP f bar r') : r = r' := by
  rcases h with ⟨p, hp, rfl, ha, hn⟩ | ⟨p, hp, rfl, ha, hn, hm⟩ | ⟨rfl, hn⟩ <;> rcases h' with ⟨p', hp', rfl, ha', hn'⟩ | ⟨p', hp', rfl, ha', hn', hm'⟩ | ⟨rfl, hn'⟩
  · rcases Nat.lt_trichotomy p p' with h | h | h
    · exact absurd ha (hn' p h)
    · rw [h]
    · exact absurd ha' (hn p' h)
  · exact absurd ha (hn' p hp)
  · exact absurd ha (hn' p hp).1
  · exact absurd ha' (hn p' hp')
  · rcases Nat.lt_trichotomy p p' with h | h | h
    · exact absurd ha (hm' p h)
    · rw [h]
    · exact absurd ha' (hm p' h)
  · exact absurd ha (hn' p hp).2
  · exact absurd ha' (hn p' hp').1
  · exact absurd ha' (hn p' hp').2
  · rfl
theorem ks_div4 {k : Nat} (hk : k < 16) : nI k / (4 : Int32) = nI (k / 4) := pk_div (d := 4) (by omega) (by decide) (by decide)
theorem ks_fpF (f : Nat → Int32) (bar : Int32) : ∃ r, f_F_freePlace f bar = some r ∧ kP f bar r := by
  have run : ∀ j k n v, k + j = 16 → j < n → (∀ q, q < k → ¬ kA f bar q) → ((v = (-1 : Int32) ∧ ∀ q, q < k → ¬ kA' f bar q) ∨ ∃ p, p < k ∧ v = nI p ∧ kA' f bar p ∧ ∀ q, q < p → ¬ kA' f bar q) →
      ∃ r, f_F_freePlace_H n f bar v (nI k) = some r ∧ kP f bar r := by
    intro j
    induction j with
    | zero =>
      intro k n v hk hn hA hB
      obtain ⟨n, rfl⟩ : ∃ m, n = m + 1 := ⟨n - 1, by omega⟩
      have : k = 16 := by omega
      subst this
      simp only [f_F_freePlace_H]
      rw [if_pos (show (16 : Int32) ≤ nI 16 by decide)]
      refine ⟨v, rfl, ?_⟩
      rcases hB with ⟨h1, h2⟩ | ⟨p, hp, h1, h2, h3⟩
      · exact Or.inr (Or.inr ⟨h1, fun q hq => ⟨hA q hq, h2 q hq⟩⟩)
      · exact Or.inr (Or.inl ⟨p, hp, h1, h2, hA, h3⟩)
    | succ j ih =>
      intro k n v hk hn hA hB
      obtain ⟨n, rfl⟩ : ∃ m, n = m + 1 := ⟨n - 1, by omega⟩
      simp only [f_F_freePlace_H, f_F_blockOf, f_F_freePlace_J52, Option.bind_some]
      rw [if_neg (show ¬ (16 : Int32) ≤ nI k from nI_ge (b := 16) (by omega) (by decide)), ks_div4 (by omega), if_neg (nI_in (by omega) (by decide)), nI_clamp (by omega), nI_1 k]
      have up : ∀ (X : Nat → Prop), (∀ q, q < k → X q) → X k → ∀ q, q < k + 1 → X q := fun X h1 h2 q hq => by
        by_cases h : q = k
        · rw [h]; exact h2
        · exact h1 q (by omega)
      have keep : ¬ kA' f bar k → ((v = (-1 : Int32) ∧ ∀ q, q < k + 1 → ¬ kA' f bar q) ∨ ∃ p, p < k + 1 ∧ v = nI p ∧ kA' f bar p ∧ ∀ q, q < p → ¬ kA' f bar q) := fun hk' => by
        rcases hB with ⟨h1, h2⟩ | ⟨p, hp, h1, h2, h3⟩
        · exact Or.inl ⟨h1, up (fun q => ¬ kA' f bar q) h2 hk'⟩
        · exact Or.inr ⟨p, by omega, h1, h2, h3⟩
      by_cases h0 : f k = 0
      · rw [if_pos h0]
        by_cases hb : nI (k / 4) = bar
        · rw [if_pos hb]
          exact ih (k + 1) n v (by omega) (by omega) (up (fun q => ¬ kA f bar q) hA (fun h => h.2.1 hb)) (keep (fun h => h.2.1 hb))
        · rw [if_neg hb, ks_whF f (by omega), Option.bind_some]
          by_cases hw : kW f (k / 4)
          · rw [if_neg (by rw [kB_t hw]; decide)]
            have hA2 : ∀ q, q < k + 1 → ¬ kA f bar q := up (fun q => ¬ kA f bar q) hA (fun h => h.2.2 hw)
            rcases hB with ⟨h1, h2⟩ | ⟨p, hp, h1, h2, h3⟩
            · rw [if_pos h1]
              exact ih (k + 1) n (nI k) (by omega) (by omega) hA2 (Or.inr ⟨k, by omega, rfl, ⟨h0, hb, hw⟩, h2⟩)
            · rw [if_neg (by rw [h1]; exact kn_neg1 (by omega))]
              exact ih (k + 1) n v (by omega) (by omega) hA2 (Or.inr ⟨p, by omega, h1, h2, h3⟩)
          · rw [if_pos (kB_f hw)]
            exact ⟨nI k, rfl, Or.inl ⟨k, by omega, rfl, ⟨h0, hb, hw⟩, hA⟩⟩
      · rw [if_neg h0]
        exact ih (k + 1) n v (by omega) (by omega) (up (fun q => ¬ kA f bar q) hA (fun h => h0 h.1)) (keep (fun h => h0 h.1))
  exact run 16 0 100 (-1) (by decide) (by decide) (fun q hq => by omega) (Or.inl ⟨rfl, fun q hq => by omega⟩)
theorem ks_fpR (f : Nat → Int32) (bar : Int32) : ∃ r, f_R_placeBut f bar = some r ∧ kP f bar r := by
  have run : ∀ (way : Nat) (G : Nat → Prop) (m : Nat), (way < 2) → (∀ p, p < 16 → (f p = 0 ∧ ¬ nI (p / 4) = bar ∧ (kW f (p / 4) ↔ way = 1) ↔ G p)) →
      (∀ p, p < 16 → G p → (∀ q, q < p → ¬ G q) → kP f bar (nI p)) → ((∀ q, q < 16 → ¬ G q) → ∀ n, m ≤ n → ∃ r, f_R_placeBut_H n f 0 bar (nI (way + 1)) 0 = some r ∧ kP f bar r) →
      ∀ j k n, k + j = 16 → m + j + 1 ≤ n → (∀ q, q < k → ¬ G q) → ∃ r, f_R_placeBut_H n f 1 bar (nI way) (nI k) = some r ∧ kP f bar r := by
    intro way G m hway hG hit K j
    induction j with
    | zero =>
      intro k n hk hn hA
      obtain ⟨n, rfl⟩ : ∃ m, n = m + 1 := ⟨n - 1, by omega⟩
      have : k = 16 := by omega
      subst this
      simp only [f_R_placeBut_H]
      rw [if_pos (show (16 : Int32) ≤ nI 16 by decide), nI_1 way]
      exact K hA n (by omega)
    | succ j ih =>
      intro k n hk hn hA
      obtain ⟨n, rfl⟩ : ∃ m, n = m + 1 := ⟨n - 1, by omega⟩
      simp only [f_R_placeBut_H, f_R_placeBut_J51, f_R_placeBut_J56]
      rw [if_neg (show ¬ (16 : Int32) ≤ nI k from nI_ge (b := 16) (by omega) (by decide)), ks_div4 (by omega), if_neg (nI_in (by omega) (by decide)), nI_clamp (by omega), nI_1 k]
      have next : ¬ G k → ∃ r, f_R_placeBut_H n f 1 bar (nI way) (nI (k + 1)) = some r ∧ kP f bar r := fun hk' => ih (k + 1) n (by omega) (by omega) (fun q hq => by
        by_cases h : q = k
        · rw [h]; exact hk'
        · exact hA q (by omega))
      by_cases hb : nI (k / 4) = bar
      · rw [if_pos hb]
        exact next (fun h => ((hG k (by omega)).mpr h).2.1 hb)
      · rw [if_neg hb]
        by_cases h0 : f k = 0
        · rw [if_pos h0, ks_whR f (by omega), Option.bind_some]
          by_cases hy : way = 1
          · rw [if_pos (show nI way = 1 by rw [hy]; rfl)]
            by_cases hw : kW f (k / 4)
            · rw [if_pos (kB_t hw)]
              exact ⟨nI k, rfl, hit k (by omega) ((hG k (by omega)).mp ⟨h0, hb, ⟨fun _ => hy, fun _ => hw⟩⟩) hA⟩
            · rw [if_neg (by rw [kB_f hw]; decide)]
              exact next (fun h => hw (((hG k (by omega)).mpr h).2.2.mpr hy))
          · have hy0 : way = 0 := by omega
            rw [if_neg (show ¬ nI way = 1 by rw [hy0]; decide)]
            by_cases hw : kW f (k / 4)
            · rw [if_neg (by rw [kB_t hw]; decide)]
              exact next (fun h => hy (((hG k (by omega)).mpr h).2.2.mp hw))
            · rw [if_pos (kB_f hw)]
              exact ⟨nI k, rfl, hit k (by omega) ((hG k (by omega)).mp ⟨h0, hb, ⟨fun e => absurd e hw, fun e => absurd e hy⟩⟩) hA⟩
        · rw [if_neg h0]
          exact next (fun h => h0 ((hG k (by omega)).mpr h).1)
  have w1 : (∀ q, q < 16 → ¬ kA f bar q) → ∀ n, 30 ≤ n → ∃ r, f_R_placeBut_H n f 0 bar (nI 1) 0 = some r ∧ kP f bar r := by
    intro hA n hn
    obtain ⟨n, rfl⟩ : ∃ m, n = m + 1 := ⟨n - 1, by omega⟩
    simp only [f_R_placeBut_H]
    rw [if_neg (show ¬ (2 : Int32) ≤ nI 1 by decide)]
    refine run 1 (kA' f bar) 5 (by decide) (fun p hp => ?_) (fun p hp h1 h2 => Or.inr (Or.inl ⟨p, hp, rfl, h1, hA, h2⟩)) (fun h2 n hn => ?_) 16 0 n (by decide) (by omega) (fun q hq => by omega)
    · unfold kA'
      constructor
      · rintro ⟨a, b, c⟩
        exact ⟨a, b, c.mpr rfl⟩
      · rintro ⟨a, b, c⟩
        exact ⟨a, b, ⟨fun _ => rfl, fun _ => c⟩⟩
    · obtain ⟨n, rfl⟩ : ∃ m, n = m + 1 := ⟨n - 1, by omega⟩
      simp only [f_R_placeBut_H]
      rw [if_pos (show (2 : Int32) ≤ nI (1 + 1) by decide)]
      exact ⟨-1, rfl, Or.inr (Or.inr ⟨rfl, fun q hq => ⟨hA q hq, h2 q hq⟩⟩)⟩
  show ∃ r, f_R_placeBut_H (99 + 1) f 0 bar 0 0 = some r ∧ kP f bar r
  simp only [f_R_placeBut_H]
  rw [if_neg (show ¬ (2 : Int32) ≤ 0 by decide)]
  refine run 0 (kA f bar) 30 (by decide) (fun p hp => ?_) (fun p hp h1 h2 => Or.inl ⟨p, hp, rfl, h1, h2⟩) w1 16 0 99 (by decide) (by decide) (fun q hq => by omega)
  unfold kA
  constructor
  · rintro ⟨a, b, c⟩
    exact ⟨a, b, fun h => absurd (c.mp h) (by decide)⟩
  · rintro ⟨a, b, c⟩
    exact ⟨a, b, ⟨fun h => absurd h c, fun h => absurd h (by decide)⟩⟩
/-! A block is left free. -/
abbrev kX (f : Nat → Int32) (p k : Nat) : Prop := ¬ k = p / 4 ∧ kW f k
abbrev kL (f : Nat → Int32) (p : Nat) : Prop := kX f p 0 ∨ kX f p 1 ∨ kX f p 2 ∨ kX f p 3
theorem ks_lvF (f : Nat → Int32) {p : Nat} (hp : p < 16) : f_F_leavesBlockFree_H 100 f (nI p) 0 = some (kB (kL f p)) := by
  have step : ∀ (n k : Nat), k < 4 → f_F_leavesBlockFree_H (n + 1) f (nI p) (nI k) = if kX f p k then some 1 else f_F_leavesBlockFree_H n f (nI p) (nI (k + 1)) := by
    intro n k hk
    simp only [f_F_leavesBlockFree_H, f_F_leavesBlockFree_J38, f_F_blockOf, Option.bind_some]
    rw [if_neg (show ¬ (4 : Int32) ≤ nI k from nI_ge (b := 4) hk (by decide)), ks_div4 hp, nI_1 k]
    by_cases h : k = p / 4
    · rw [if_pos (congrArg nI h), if_neg (fun e => e.1 h)]
    · rw [if_neg (fun e => h ((nI_eq (by omega) (by omega)).mp e)), ks_whF f hk, Option.bind_some]
      by_cases hw : kW f k
      · rw [if_neg (by rw [kB_t hw]; decide), if_pos (show kX f p k from ⟨h, hw⟩)]
        rfl
      · rw [if_pos (kB_f hw), if_neg (fun e => hw e.2)]
  show f_F_leavesBlockFree_H (99 + 1) f (nI p) (nI 0) = _
  rw [step 99 0 (by decide), step 98 1 (by decide), step 97 2 (by decide), step 96 3 (by decide)]
  rw [f_F_leavesBlockFree_H, if_pos (show (4 : Int32) ≤ nI (3 + 1) by decide)]
  rw [if_neg (show ¬ ¬ ((0 : Int32) = 0 ∨ (0 : Int32) = 1) by decide)]
  exact kor4 _ _ _ _
theorem ks_lvR (f : Nat → Int32) {p : Nat} (hp : p < 16) : f_R_leavesOne f (nI p) = some (kB (kL f p)) := by
  have step : ∀ (n k : Nat) (c : Prop) [Decidable c], k < 4 → f_R_leavesOne_H (n + 1) f (nI p) (kB c) (nI k) = f_R_leavesOne_H n f (nI p) (kB (c ∨ kX f p k)) (nI (k + 1)) := by
    intro n k c _ hk
    simp only [f_R_leavesOne_H, f_R_leavesOne_J32, f_R_leavesOne_J36, f_R_leavesOne_J37]
    rw [if_neg (show ¬ (4 : Int32) ≤ nI k from nI_ge (b := 4) hk (by decide)), ks_div4 hp, nI_1 k]
    by_cases hc : c
    · rw [if_neg (by rw [kB_t hc]; decide), kB_t (Or.inl hc)]
    · rw [if_pos (kB_f hc), if_neg (nI_pos (by omega))]
      by_cases h : k = p / 4
      · rw [if_pos (congrArg nI h), kB_f (fun e => e.elim hc (fun e => e.1 h))]
      · rw [if_neg (fun e => h ((nI_eq (by omega) (by omega)).mp e)), ks_whR f hk, Option.bind_some]
        by_cases hw : kW f k
        · rw [if_neg (by rw [kB_t hw]; decide), kB_t (Or.inr ⟨h, hw⟩)]
        · rw [if_pos (kB_f hw), kB_f (fun e => e.elim hc (fun e => hw e.2))]
  show f_R_leavesOne_H (99 + 1) f (nI p) (kB False) (nI 0) = _
  rw [step 99 0 _ (by decide), step 98 1 _ (by decide), step 97 2 _ (by decide), step 96 3 _ (by decide)]
  rw [f_R_leavesOne_H, if_pos (show (4 : Int32) ≤ nI (3 + 1) by decide), if_neg (fun h => h (kB_or _))]
  exact congrArg some (kB_iff (by simp only [false_or, or_assoc]))
/-- nothing is left where there is no place -/
theorem ks_lvR0 (f : Nat → Int32) : f_R_leavesOne f (-1) = some 0 := by
  have step : ∀ (n k : Nat), k < 4 → f_R_leavesOne_H (n + 1) f (-1) 0 (nI k) = f_R_leavesOne_H n f (-1) 0 (nI (k + 1)) := by
    intro n k hk
    simp only [f_R_leavesOne_H, f_R_leavesOne_J36, f_R_leavesOne_J37]
    rw [if_neg (show ¬ (4 : Int32) ≤ nI k from nI_ge (b := 4) hk (by decide)), if_pos trivial, if_pos (show (-1 : Int32) < 0 by decide), nI_1 k]
  show f_R_leavesOne_H (99 + 1) f (-1) 0 (nI 0) = _
  rw [step 99 0 (by decide), step 98 1 (by decide), step 97 2 (by decide), step 96 3 (by decide)]
  rw [f_R_leavesOne_H, if_pos (show (4 : Int32) ≤ nI (3 + 1) by decide), if_neg (by decide)]
/-! The block to clean. -/
/-- free pages outside block b -/
def kO (f : Nat → Int32) (b : Nat) : Nat := (if 0 = b then 0 else kN f 0 0) + (if 1 = b then 0 else kN f 1 0) + (if 2 = b then 0 else kN f 2 0) + (if 3 = b then 0 else kN f 3 0)
theorem kO_le (f : Nat → Int32) (b : Nat) : kO f b ≤ 16 := by
  have h0 := kN_le f 0 0
  have h1 := kN_le f 1 0
  have h2 := kN_le f 2 0
  have h3 := kN_le f 3 0
  unfold kO
  split <;> split <;> split <;> split <;> omega
theorem ks_outF (f : Nat → Int32) {b : Nat} (hb : b < 4) : f_F_countFreeOutside f (nI b) = some (nI (kO f b)) := by
  have step : ∀ (n acc k : Nat), k < 4 → f_F_countFreeOutside_H (n + 1) f (nI b) (nI acc) (nI k) = f_F_countFreeOutside_H n f (nI b) (nI (acc + if k = b then 0 else kN f k 0)) (nI (k + 1)) := by
    intro n acc k hk
    simp only [f_F_countFreeOutside_H, f_F_countFreeOutside_J25]
    rw [if_neg (show ¬ (4 : Int32) ≤ nI k from nI_ge (b := 4) hk (by decide)), nI_1 k]
    by_cases h : k = b
    · rw [if_pos (congrArg nI h), if_pos h, show nI acc + (0 : Int32) = nI (acc + 0) from nI_add acc 0]
    · rw [if_neg (fun e => h ((nI_eq (by omega) (by omega)).mp e)), if_neg h, ks_cntF f hk, Option.bind_some, nI_add]
  show f_F_countFreeOutside_H (99 + 1) f (nI b) (nI 0) (nI 0) = _
  rw [step 99 _ 0 (by decide), step 98 _ 1 (by decide), step 97 _ 2 (by decide), step 96 _ 3 (by decide)]
  rw [f_F_countFreeOutside_H, if_pos (show (4 : Int32) ≤ nI (3 + 1) by decide), Nat.zero_add]
  rfl
/-- block b can be cleaned -/
abbrev kC (f : Nat → Int32) (b : Nat) : Prop := ¬ kW f b ∧ kN f b 1 < 4 ∧ kN f b 1 ≤ kO f b
theorem ks_canF (f : Nat → Int32) {b : Nat} (hb : b < 4) : f_F_canBeCleaned f (nI b) = some (kB (kC f b)) := by
  have h4 := kN_le f b 1
  have h16 := kO_le f b
  unfold f_F_canBeCleaned
  rw [ks_cntF f hb, Option.bind_some, ks_whF f hb, Option.bind_some]
  by_cases hw : kW f b
  · rw [if_neg (by rw [kB_t hw]; decide), kB_f (fun e => e.1 hw)]
    rfl
  · rw [if_pos (kB_f hw)]
    by_cases h1 : kN f b 1 < 4
    · rw [if_neg (show ¬ (4 : Int32) ≤ nI _ from nI_ge (b := 4) h1 (by decide)), ks_outF f hb, Option.bind_some]
      by_cases h2 : kN f b 1 ≤ kO f b
      · rw [if_neg (nI_nlt h2 (by omega)), kB_t ⟨hw, h1, h2⟩]
        rfl
      · rw [if_pos (nI_lt (by omega) (by omega)), kB_f (fun e => h2 e.2.2)]
        rfl
    · rw [if_pos (show (4 : Int32) ≤ nI _ from nI_le (a := 4) (by omega) (by omega)), kB_f (fun e => h1 e.2.1)]
      rfl
/-- block b is better than a -/
abbrev kBt (f g : Nat → Int32) (b a : Nat) : Prop := kN f b 1 < kN f a 1 ∨ (kN f b 1 = kN f a 1 ∧ g b < g a)
theorem ks_nle {x y : Int32} : ¬ x ≤ y ↔ y < x := Int32.not_le
theorem ks_betF (f g : Nat → Int32) {b a : Nat} (hb : b < 4) (ha : a < 4) : f_F_isBetterToClean f g (nI b) (nI a) = some (kB (kBt f g b a)) := by
  have h4 := kN_le f b 1
  have h4a := kN_le f a 1
  unfold f_F_isBetterToClean f_M_erasuresOf
  rw [ks_cntF f hb, Option.bind_some, ks_cntF f ha, Option.bind_some, if_neg (nI_in hb (by decide)), if_neg (nI_in ha (by decide)), Option.bind_some, Option.bind_some, nI_clamp (by omega), nI_clamp (by omega)]
  by_cases h : kN f b 1 = kN f a 1
  · rw [if_pos (congrArg nI h)]
    by_cases h2 : g a ≤ g b
    · rw [if_pos h2, kB_f (fun e => e.elim (fun e => by omega) (fun e => ks_nle.mpr e.2 h2))]
      rfl
    · rw [if_neg h2, kB_t (Or.inr ⟨h, ks_nle.mp h2⟩)]
      rfl
  · rw [if_neg (fun e => h ((nI_eq (by omega) (by omega)).mp e))]
    by_cases h2 : kN f b 1 < kN f a 1
    · rw [if_neg (nI_ge h2 (by omega)), kB_t (Or.inl h2)]
      rfl
    · rw [if_pos (nI_le (by omega) (by omega)), kB_f (fun e => e.elim (fun e => by omega) (fun e => h e.1))]
      rfl
def kvo : Option Nat → Int32
  | none => -1
  | some b => nI b
def kBo (f g : Nat → Int32) (b : Nat) : Option Nat → Bool
  | none => true
  | some a => decide (kBt f g b a)
/-- one block more seen -/
def kS (f g : Nat → Int32) (o : Option Nat) (b : Nat) : Option Nat := if kC f b ∧ kBo f g b o = true then some b else o
def kin (o : Option Nat) : Prop := ∀ a, o = some a → a < 4
theorem kS_in {f g : Nat → Int32} {o : Option Nat} {b : Nat} (h : kin o) (hb : b < 4) : kin (kS f g o b) := by
  unfold kS
  split
  · intro a ha
    cases ha
    exact hb
  · exact h
theorem ks_stF (f g : Nat → Int32) (n : Nat) {o : Option Nat} (ho : kin o) {b : Nat} (hb : b < 4) : f_F_blockToClean_H (n + 1) f g (kvo o) (nI b) = f_F_blockToClean_H n f g (kvo (kS f g o b)) (nI (b + 1)) := by
  simp only [f_F_blockToClean_H, f_F_blockToClean_J31, f_F_blockToClean_J33]
  rw [if_neg (show ¬ (4 : Int32) ≤ nI b from nI_ge (b := 4) hb (by decide)), ks_canF f hb, Option.bind_some, nI_1 b]
  by_cases hc : kC f b
  · rw [if_neg (by rw [kB_t hc]; decide)]
    cases o with
    | none =>
      rw [if_pos (show kvo none = (-1 : Int32) from rfl)]
      unfold kS
      rw [if_pos (show kC f b ∧ kBo f g b none = true from ⟨hc, rfl⟩)]
      rfl
    | some a =>
      have ha := ho a rfl
      rw [if_neg (show ¬ kvo (some a) = (-1 : Int32) from kn_neg1 (by omega))]
      show (f_F_isBetterToClean f g (nI b) (nI a)).bind _ = _
      rw [ks_betF f g hb ha, Option.bind_some]
      unfold kS
      by_cases h : kBt f g b a
      · rw [if_neg (by rw [kB_t h]; decide), if_pos (show kC f b ∧ kBo f g b (some a) = true from ⟨hc, decide_eq_true h⟩)]
        rfl
      · rw [if_pos (kB_f h), if_neg (show ¬ (kC f b ∧ kBo f g b (some a) = true) from fun e => h (of_decide_eq_true e.2))]
  · rw [if_pos (kB_f hc)]
    unfold kS
    rw [if_neg (fun e => hc e.1)]
/-- the block to clean -/
def kT (f g : Nat → Int32) : Option Nat := kS f g (kS f g (kS f g (kS f g none 0) 1) 2) 3
theorem kin0 : kin none := fun a h => by cases h
theorem ks_tcF (f g : Nat → Int32) : f_F_blockToClean f g = some (kvo (kT f g)) := by
  show f_F_blockToClean_H (99 + 1) f g (kvo none) (nI 0) = _
  have i1 : kin (kS f g none 0) := kS_in kin0 (by decide)
  have i2 : kin (kS f g (kS f g none 0) 1) := kS_in i1 (by decide)
  have i3 : kin (kS f g (kS f g (kS f g none 0) 1) 2) := kS_in i2 (by decide)
  rw [ks_stF f g 99 kin0 (by decide), ks_stF f g 98 i1 (by decide), ks_stF f g 97 i2 (by decide), ks_stF f g 96 i3 (by decide)]
  rw [f_F_blockToClean_H, if_pos (show (4 : Int32) ≤ nI (3 + 1) by decide)]
  rfl
theorem ks_neg {x y : Int32} : -x + (x + y) = y := by
  rw [← Int32.add_assoc, Int32.add_left_neg, Int32.zero_add]
/-- the reference's count of free pages outside -/
theorem ks_outR (f : Nat → Int32) {b : Nat} (hb : b < 4) : -nI (kN f b 0) + nI (kN f 0 0) + nI (kN f 1 0) + nI (kN f 2 0) + nI (kN f 3 0) = nI (kO f b) := by
  have e : -nI (kN f b 0) + nI (kN f 0 0) + nI (kN f 1 0) + nI (kN f 2 0) + nI (kN f 3 0) = -nI (kN f b 0) + nI (kN f 0 0 + kN f 1 0 + kN f 2 0 + kN f 3 0) := by
    rw [← nI_add, ← nI_add, ← nI_add]
    simp only [Int32.add_assoc]
  have e2 : kN f 0 0 + kN f 1 0 + kN f 2 0 + kN f 3 0 = kN f b 0 + kO f b := by
    unfold kO
    rcases (show b = 0 ∨ b = 1 ∨ b = 2 ∨ b = 3 by omega) with rfl | rfl | rfl | rfl <;> simp <;> omega
  rw [e, e2, ← nI_add, ks_neg]
theorem ks_stR (f g : Nat → Int32) (n : Nat) {o : Option Nat} (ho : kin o) {b : Nat} (hb : b < 4) : f_R_toClean_H (n + 1 + 1 + 1 + 1 + 1 + 1) f g 0 (kvo o) (nI b) 0 0 0 = f_R_toClean_H n f g 0 (kvo (kS f g o b)) (nI (b + 1)) 0 0 0 := by
  have h4 := kN_le f b 1
  have h16 := kO_le f b
  have in1 : ∀ (n k : Nat) (v v3 v4 : Int32), k < 4 → f_R_toClean_H (n + 1) f g 1 v (nI b) v3 v4 (nI k) = f_R_toClean_H n f g 1 v (nI b) v3 (v4 + nI (kN f k 0)) (nI (k + 1)) := by
    intro n k v v3 v4 hk
    simp only [f_R_toClean_H]
    rw [if_neg (show ¬ (4 : Int32) ≤ nI k from nI_ge (b := 4) hk (by decide)), ks_cntR f hk, Option.bind_some, nI_1 k]
  rw [show f_R_toClean_H (n + 1 + 1 + 1 + 1 + 1 + 1) f g 0 (kvo o) (nI b) 0 0 0 = f_R_toClean_H (n + 1 + 1 + 1 + 1 + 1) f g 1 (kvo o) (nI b) (nI (kN f b 1)) (-nI (kN f b 0)) (nI 0) by
    simp only [f_R_toClean_H]
    rw [if_neg (show ¬ (4 : Int32) ≤ nI b from nI_ge (b := 4) hb (by decide)), ks_cntR f hb, Option.bind_some, ks_cntR f hb, Option.bind_some]
    rfl]
  rw [in1 _ 0 _ _ _ (by decide), in1 _ 1 _ _ _ (by decide), in1 _ 2 _ _ _ (by decide), in1 _ 3 _ _ _ (by decide), ks_outR f hb]
  simp only [f_R_toClean_H, f_R_toClean_J131, f_R_toClean_J130, f_R_toClean_J118, f_R_toClean_J117, f_R_toClean_J113]
  rw [if_pos (show (4 : Int32) ≤ nI (3 + 1) by decide), ks_whR f hb, Option.bind_some, nI_1 b]
  by_cases hw : kW f b
  · rw [if_neg (by rw [kB_t hw]; decide)]
    unfold kS
    rw [if_neg (fun e => e.1.1 hw)]
  · rw [if_pos (kB_f hw)]
    by_cases h1 : kN f b 1 < 4
    · rw [if_neg (fun e => by have := (ks_n4 f b 1).mp e; omega)]
      by_cases h2 : kN f b 1 ≤ kO f b
      · rw [if_pos (nI_le h2 (by omega))]
        have hc : kC f b := ⟨hw, h1, h2⟩
        cases o with
        | none =>
          rw [if_pos (show kvo none < 0 by decide), if_neg (by decide)]
          unfold kS
          rw [if_pos (show kC f b ∧ kBo f g b none = true from ⟨hc, rfl⟩)]
          rfl
        | some a =>
          have ha := ho a rfl
          have h4a := kN_le f a 1
          rw [show kvo (some a) = nI a from rfl, if_neg (nI_pos (by omega)), ks_cntR f ha, Option.bind_some, Option.bind_some, if_neg (nI_in hb (by decide)), if_neg (nI_in ha (by decide)), nI_clamp (by omega), nI_clamp (by omega)]
          unfold kS
          by_cases h5 : kN f b 1 < kN f a 1
          · rw [if_pos (nI_lt h5 (by omega)), if_neg (by decide), if_pos (show kC f b ∧ kBo f g b (some a) = true from ⟨hc, decide_eq_true (Or.inl h5)⟩)]
            rfl
          · rw [if_neg (nI_nlt (by omega) (by omega))]
            by_cases h6 : kN f b 1 = kN f a 1
            · rw [if_pos (congrArg nI h6)]
              by_cases h7 : g a ≤ g b
              · rw [if_pos h7, if_pos trivial, if_neg (show ¬ (kC f b ∧ kBo f g b (some a) = true) from fun e => (of_decide_eq_true e.2).elim (fun e => h5 e) (fun e => ks_nle.mpr e.2 h7))]
                rfl
              · rw [if_neg h7, if_neg (by decide), if_pos (show kC f b ∧ kBo f g b (some a) = true from ⟨hc, decide_eq_true (Or.inr ⟨h6, ks_nle.mp h7⟩)⟩)]
                rfl
            · rw [if_neg (fun e => h6 ((nI_eq (by omega) (by omega)).mp e)), if_pos trivial, if_neg (show ¬ (kC f b ∧ kBo f g b (some a) = true) from fun e => (of_decide_eq_true e.2).elim (fun e => h5 e) (fun e => h6 e.1))]
              rfl
      · rw [if_neg (nI_ge (by omega) (by omega))]
        unfold kS
        rw [if_neg (fun e => h2 e.1.2.2)]
    · rw [if_pos ((ks_n4 f b 1).mpr (by omega))]
      unfold kS
      rw [if_neg (fun e => h1 e.1.2.1)]
theorem ks_tcR (f g : Nat → Int32) : f_R_toClean f g = some (kvo (kT f g)) := by
  show f_R_toClean_H (94 + 1 + 1 + 1 + 1 + 1 + 1) f g 0 (kvo none) (nI 0) 0 0 0 = _
  have i1 : kin (kS f g none 0) := kS_in kin0 (by decide)
  have i2 : kin (kS f g (kS f g none 0) 1) := kS_in i1 (by decide)
  have i3 : kin (kS f g (kS f g (kS f g none 0) 1) 2) := kS_in i2 (by decide)
  rw [ks_stR f g 94 kin0 (by decide)]
  show f_R_toClean_H (88 + 1 + 1 + 1 + 1 + 1 + 1) f g 0 _ _ 0 0 0 = _
  rw [ks_stR f g 88 i1 (by decide)]
  show f_R_toClean_H (82 + 1 + 1 + 1 + 1 + 1 + 1) f g 0 _ _ 0 0 0 = _
  rw [ks_stR f g 82 i2 (by decide)]
  show f_R_toClean_H (76 + 1 + 1 + 1 + 1 + 1 + 1) f g 0 _ _ 0 0 0 = _
  rw [ks_stR f g 76 i3 (by decide)]
  show f_R_toClean_H (75 + 1) f g 0 _ _ 0 0 0 = _
  rw [f_R_toClean_H, if_pos (show (4 : Int32) ≤ nI (3 + 1) by decide)]
  rfl
