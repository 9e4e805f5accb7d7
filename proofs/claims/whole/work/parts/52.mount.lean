/-! Mounting, in both. -/
/-- how far a is ahead of b -/
def kah (a b : Nat) : Nat := if a < b then 4095 - (b - a) else if a - b = 4095 then 0 else a - b
abbrev kNw (a b : Nat) : Prop := 0 < kah a b ∧ kah a b ≤ 2000
def kmchk : Nat → Nat → Bool
  | 0, v => decide (f_U_floorMod (-nI v) 4095 = some (nI ((4095 - v) % 4095)))
  | d + 1, v => kmchk d (2 * v) && kmchk d (2 * v + 1)
set_option maxRecDepth 100000 in
theorem kmchk_ok : kmchk 12 0 = true := by decide +kernel
theorem kmchk_use : ∀ (d v : Nat), kmchk d v = true → ∀ m, m < 2 ^ d → f_U_floorMod (-nI (v * 2 ^ d + m)) 4095 = some (nI ((4095 - (v * 2 ^ d + m)) % 4095)) := by
  intro d
  induction d with
  | zero =>
    intro v h m hm
    have : m = 0 := by simpa using hm
    subst this
    simp only [kmchk, decide_eq_true_eq] at h
    simpa using h
  | succ d ih =>
    intro v h m hm
    simp only [kmchk, Bool.and_eq_true] at h
    have hp : 2 ^ (d + 1) = 2 ^ d * 2 := Nat.pow_succ 2 d
    by_cases h1 : m < 2 ^ d
    · have h2 := ih (2 * v) h.1 m h1
      rwa [show 2 * v * 2 ^ d = v * 2 ^ (d + 1) by rw [Nat.pow_succ, Nat.mul_comm 2 v, Nat.mul_assoc, Nat.mul_comm 2]] at h2
    · obtain ⟨m', rfl⟩ : ∃ m', m = 2 ^ d + m' := ⟨m - 2 ^ d, by omega⟩
      have h2 := ih (2 * v + 1) h.2 m' (by omega)
      rwa [show (2 * v + 1) * 2 ^ d + m' = v * 2 ^ (d + 1) + (2 ^ d + m') by rw [Nat.add_mul, Nat.pow_succ, Nat.mul_comm 2 v, Nat.mul_assoc, Nat.mul_comm 2]; omega] at h2
theorem ks_fmN {m : Nat} (h : m < 4096) : f_U_floorMod (-nI m) 4095 = some (nI ((4095 - m) % 4095)) := by
  have := kmchk_use 12 0 kmchk_ok m h
  rwa [Nat.zero_mul, Nat.zero_add] at this
theorem ks_fmP {n : Nat} (h : n < 4096) : f_U_floorMod (nI n) 4095 = some (nI (n % 4095)) := by
  unfold f_U_floorMod f_U_floorMod_J18
  have e : (nI n - nI n / (4095 : Int32) * 4095) = nI (n % 4095) := pk_rem (d := 4095) (by omega) (by decide) (by decide)
  have hx : n ^^^ 4095 < 2 ^ 31 := Nat.xor_lt_two_pow (by omega) (by decide)
  rw [if_neg (by decide), show nI n ^^^ (4095 : Int32) = nI (n ^^^ 4095) from kn_xor n 4095, if_pos (nI_pos' hx), e]
theorem ks_negsub {a b : Nat} (h : a ≤ b) : nI a - nI b = -nI (b - a) := by
  rw [← pk_sub h, Int32.neg_sub]
theorem ks_newF {a b : Nat} (ha : a < 4096) (hb : b < 4096) : f_F_isNewer (nI a) (nI b) = some (kB (kNw a b)) := by
  have key : f_U_floorMod (nI a - nI b) 4095 = some (nI (kah a b)) := by
    unfold kah
    by_cases h : a < b
    · rw [if_pos h, ks_negsub (by omega), ks_fmN (by omega), Nat.mod_eq_of_lt (by omega)]
    · rw [if_neg h, pk_sub (by omega), ks_fmP (by omega)]
      by_cases h2 : a - b = 4095
      · rw [if_pos h2, h2]
      · rw [if_neg h2, Nat.mod_eq_of_lt (by omega)]
  have hl : kah a b < 4096 := by
    unfold kah
    split
    · omega
    · split <;> omega
  unfold f_F_isNewer f_F_isNewer_J26 f_F_isNewer_J27
  rw [key, Option.bind_some]
  by_cases h1 : 0 < kah a b
  · rw [if_neg (show ¬ nI (kah a b) < (1 : Int32) from nI_nlt (b := 1) h1 (by omega))]
    by_cases h2 : kah a b ≤ 2000
    · rw [if_neg (show ¬ (2000 : Int32) < nI (kah a b) from nI_nlt (a := 2000) h2 (by decide)), if_neg (by decide), kB_t ⟨h1, h2⟩]
    · rw [if_pos (show (2000 : Int32) < nI (kah a b) from nI_lt (a := 2000) (by omega) (by omega)), if_neg (by decide), kB_f (fun e => h2 e.2)]
  · rw [if_pos (show nI (kah a b) < (1 : Int32) from nI_lt (b := 1) (by omega) (by decide)), if_neg (by decide), kB_f (fun e => h1 e.1)]
theorem ks_newR {a b : Nat} (ha : a < 4096) (hb : b < 4096) : f_R_newer (nI a) (nI b) = some (kB (kNw a b)) := by
  have j31 : ∀ r, r < 4096 → f_R_newer_J31 (nI r) = some (kB (0 < r ∧ r ≤ 2000)) := by
    intro r hr
    unfold f_R_newer_J31 f_R_newer_J47 f_R_newer_J48
    by_cases h1 : 0 < r
    · rw [if_neg (nI_nle h1 (by omega))]
      by_cases h2 : r ≤ 2000
      · rw [if_neg (show ¬ (2000 : Int32) < nI r from nI_nlt (a := 2000) h2 (by decide)), if_neg (by decide), kB_t ⟨h1, h2⟩]
      · rw [if_pos (show (2000 : Int32) < nI r from nI_lt (a := 2000) (by omega) (by omega)), if_neg (by decide), kB_f (fun e => h2 e.2)]
    · have : r = 0 := by omega
      subst this
      rw [if_pos (by decide), if_neg (by decide), kB_f (fun e => h1 e.1)]
  unfold f_R_newer f_R_newer_J18 kNw kah
  by_cases h : a < b
  · have e : nI a - nI b + (4095 : Int32) = nI (4095 - (b - a)) := by
      rw [ks_negsub (by omega), Int32.add_comm, ← Int32.sub_eq_add_neg]
      exact pk_sub (a := 4095) (by omega)
    rw [if_pos (nI_lt h (by omega)), e, if_neg (show ¬ nI (4095 - (b - a)) = (4095 : Int32) from fun e => by have := (nI_eq (b := 4095) (by omega) (by decide)).mp e; omega), j31 _ (by omega)]
    simp only [if_pos h]
  · rw [if_neg (nI_nlt (by omega) (by omega)), pk_sub (by omega)]
    simp only [if_neg h]
    by_cases h2 : a - b = 4095
    · rw [if_pos (show nI (a - b) = (4095 : Int32) from congrArg nI h2)]
      have := j31 0 (by decide)
      simp only [if_pos h2]
      exact this
    · rw [if_neg (show ¬ nI (a - b) = (4095 : Int32) from fun e => h2 ((nI_eq (b := 4095) (by omega) (by decide)).mp e)), j31 _ (by omega)]
      simp only [if_neg h2]
/-! How many pages are held. -/
def kcH (pl : Nat → Int32) : Nat → Nat
  | 0 => 0
  | k + 1 => kcH pl k + if pl k = -1 then 0 else 1
theorem kcH_le (pl : Nat → Int32) (m : Nat) : kcH pl m ≤ m := by
  induction m with
  | zero => exact Nat.le_refl _
  | succ m ih =>
    simp only [kcH]
    split <;> omega
theorem kcH_upd (pl : Nat → Int32) (k : Nat) {v : Int32} (hv : ¬ v = -1) (m : Nat) : kcH (upd pl k v) m = kcH pl m + if k < m ∧ pl k = -1 then 1 else 0 := by
  induction m with
  | zero => rfl
  | succ m ih =>
    simp only [kcH, ih]
    by_cases e : m = k
    · subst e
      rw [pk_us, if_neg hv, if_neg (show ¬ (m < m ∧ pl m = -1) from fun h => by omega)]
      by_cases h : pl m = -1
      · rw [if_pos h, if_pos (show m < m + 1 ∧ pl m = -1 from ⟨by omega, h⟩)]
      · rw [if_neg h, if_neg (show ¬ (m < m + 1 ∧ pl m = -1) from fun e => h e.2)]
    · rw [pk_un e]
      by_cases h : k < m ∧ pl k = -1
      · rw [if_pos h, if_pos (show k < m + 1 ∧ pl k = -1 from ⟨by omega, h.2⟩)]
        omega
      · rw [if_neg h, if_neg (show ¬ (k < m + 1 ∧ pl k = -1) from fun e2 => h ⟨by omega, e2.2⟩)]
        omega
theorem ks_held (pl : Nat → Int32) : f_F_countHeld pl = some (nI (kcH pl 8)) := by
  have run : ∀ j k n, k + j = 8 → j < n → f_F_countHeld_H n pl (nI (kcH pl k)) (nI k) = some (nI (kcH pl 8)) := by
    intro j
    induction j with
    | zero =>
      intro k n hk hn
      obtain ⟨n, rfl⟩ : ∃ m, n = m + 1 := ⟨n - 1, by omega⟩
      have : k = 8 := by omega
      subst this
      simp only [f_F_countHeld_H]
      rw [if_pos (show (8 : Int32) ≤ nI 8 by decide)]
    | succ j ih =>
      intro k n hk hn
      obtain ⟨n, rfl⟩ : ∃ m, n = m + 1 := ⟨n - 1, by omega⟩
      simp only [f_F_countHeld_H, f_F_countHeld_J26]
      rw [if_neg (show ¬ (8 : Int32) ≤ nI k from nI_ge (b := 8) (by omega) (by decide)), if_neg (nI_in (by omega) (by decide)), nI_clamp (by omega), nI_1 k]
      have := ih (k + 1) n (by omega) (by omega)
      simp only [kcH] at this
      by_cases h : pl k = -1
      · rw [if_pos h, show nI (kcH pl k) + (0 : Int32) = nI (kcH pl k + 0) from nI_add _ 0]
        rw [if_pos h] at this
        exact this
      · rw [if_neg h, show nI (kcH pl k) + (1 : Int32) = nI (kcH pl k + 1) from nI_add _ 1]
        rw [if_neg h] at this
        exact this
  exact run 8 0 100 (by decide) (by decide)
