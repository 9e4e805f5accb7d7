/-! A page is written. -/
theorem kS_some {f g : Nat → Int32} {o : Option Nat} {b a : Nat} (h : kS f g o b = some a) : (a = b ∧ kC f b) ∨ o = some a := by
  unfold kS at h
  split at h
  · next hc =>
    cases h
    exact Or.inl ⟨rfl, hc.1⟩
  · exact Or.inr h
theorem kS_none {f g : Nat → Int32} {o : Option Nat} {b : Nat} (h : kS f g o b = none) : o = none ∧ ¬ kC f b := by
  unfold kS at h
  split at h
  · cases h
  · next hc =>
    refine ⟨h, fun h1 => hc ⟨h1, ?_⟩⟩
    rw [h]
    rfl
theorem kT_some {f g : Nat → Int32} {b : Nat} (h : kT f g = some b) : b < 4 ∧ kC f b := by
  unfold kT at h
  rcases kS_some h with ⟨rfl, hc⟩ | h
  · exact ⟨by decide, hc⟩
  rcases kS_some h with ⟨rfl, hc⟩ | h
  · exact ⟨by decide, hc⟩
  rcases kS_some h with ⟨rfl, hc⟩ | h
  · exact ⟨by decide, hc⟩
  rcases kS_some h with ⟨rfl, hc⟩ | h
  · exact ⟨by decide, hc⟩
  cases h
theorem kT_none {f g : Nat → Int32} (h : kT f g = none) : ¬ kC f 0 ∧ ¬ kC f 1 ∧ ¬ kC f 2 ∧ ¬ kC f 3 := by
  unfold kT at h
  obtain ⟨h, h3⟩ := kS_none h
  obtain ⟨h, h2⟩ := kS_none h
  obtain ⟨h, h1⟩ := kS_none h
  obtain ⟨-, h0⟩ := kS_none h
  exact ⟨h0, h1, h2, h3⟩
/-! Eight pages at most are used. -/
def kcnt (S : Nat → Bool) : Nat → Nat
  | 0 => 0
  | m + 1 => kcnt S m + if S m = true then 1 else 0
theorem kcnt_one (S : Nat → Bool) (g : Nat → Nat) (n : Nat) : ∀ m, (∀ p q, p < m → q < m → S p = true → S q = true → g p = g q → p = q) → kcnt S m ≤ kcnt (fun p => S p && decide (¬ g p = n)) m + 1 := by
  intro m
  induction m with
  | zero => intro _; exact Nat.zero_le _
  | succ m ih =>
    intro hi
    have ih' := ih (fun p q hp hq => hi p q (by omega) (by omega))
    simp only [kcnt]
    by_cases hS : S m = true
    · rw [if_pos hS]
      by_cases hg : g m = n
      · have same : ∀ j, j ≤ m → kcnt (fun p => S p && decide (¬ g p = n)) j = kcnt S j := by
          intro j
          induction j with
          | zero => intro _; rfl
          | succ j ihj =>
            intro hj
            simp only [kcnt, ihj (by omega)]
            by_cases hSj : S j = true
            · have : ¬ g j = n := fun e => by
                have := hi j m (by omega) (by omega) hSj hS (e.trans hg.symm)
                omega
              simp [hSj, this]
            · simp [hSj]
        rw [same m (Nat.le_refl _)]
        omega
      · have : (S m && decide (¬ g m = n)) = true := by simp [hS, hg]
        rw [if_pos this]
        omega
    · have : ¬ (S m && decide (¬ g m = n)) = true := by simp [hS]
      rw [if_neg hS, if_neg this]
      omega
theorem kcnt_le : ∀ (n : Nat) (S : Nat → Bool) (g : Nat → Nat) (m : Nat), (∀ p, p < m → S p = true → g p < n) → (∀ p q, p < m → q < m → S p = true → S q = true → g p = g q → p = q) → kcnt S m ≤ n := by
  intro n
  induction n with
  | zero =>
    intro S g m h _
    have : ∀ j, j ≤ m → kcnt S j = 0 := by
      intro j
      induction j with
      | zero => intro _; rfl
      | succ j ih =>
        intro hj
        simp only [kcnt, ih (by omega)]
        rw [if_neg (fun e => absurd (h j (by omega) e) (by omega))]
    rw [this m (Nat.le_refl _)]
    exact Nat.le_refl _
  | succ n ih =>
    intro S g m h hi
    have h1 := kcnt_one S g n m hi
    have h2 := ih (fun p => S p && decide (¬ g p = n)) g m (fun p hp e => by
      simp only [Bool.and_eq_true, decide_eq_true_eq] at e
      have := h p hp e.1
      omega) (fun p q hp hq ep eq hg => by
      simp only [Bool.and_eq_true] at ep eq
      exact hi p q hp hq ep.1 eq.1 hg)
    omega
theorem kI_used {st pl lg : Nat → Int32} (h : kI st pl lg) : kN st 0 1 + kN st 1 1 + kN st 2 1 + kN st 3 1 ≤ 8 := by
  have := kcnt_le 8 (fun p => decide (st p = 1)) (fun p => (lg p).toNatClampNeg) 16 (fun p hp e => by
    obtain ⟨k, hk, e1, -⟩ := h.2 p hp (of_decide_eq_true e)
    show (lg p).toNatClampNeg < 8
    rw [e1, nI_clamp (by omega)]
    exact hk) (fun p q hp hq ep eq e => by
    obtain ⟨k, hk, e1, e2⟩ := h.2 p hp (of_decide_eq_true ep)
    obtain ⟨j, hj, e3, e4⟩ := h.2 q hq (of_decide_eq_true eq)
    have e' : (lg p).toNatClampNeg = (lg q).toNatClampNeg := e
    rw [e1, e3, nI_clamp (by omega), nI_clamp (by omega)] at e'
    rw [e', e4] at e2
    exact ((nI_eq (by omega) (by omega)).mp e2).symm)
  simp only [kcnt, decide_eq_true_eq] at this
  simp only [kN, Nat.reduceMul, Nat.reduceAdd]
  omega
/-! When a block is left free. -/
def kLv (st : Nat → Int32) : Prop := ∃ p, p < 16 ∧ kP st (-1) (nI p) ∧ kL st p
theorem ks_nb {q : Nat} (h : q < 16) : ¬ nI (q / 4) = (-1 : Int32) := kn_neg1 (by omega)
theorem ks_lv (st : Nat → Int32) : (kLv st ∧ ∃ p, p < 16 ∧ st p = 0 ∧ f_F_freePlace st (-1) = some (nI p) ∧ f_F_leavesBlockFree st = some 1 ∧ f_R_placeBut st (-1) = some (nI p) ∧ f_R_leavesOne st (nI p) = some 1) ∨
    (¬ kLv st ∧ f_F_leavesBlockFree st = some 0 ∧ ∃ r, f_R_placeBut st (-1) = some r ∧ f_R_leavesOne st r = some 0) := by
  obtain ⟨r, h1, h2⟩ := ks_fpF st (-1)
  obtain ⟨r', h3, h4⟩ := ks_fpR st (-1)
  have e := kP_one h4 h2
  rw [e] at h3
  have hcase : (∃ p, p < 16 ∧ r = nI p ∧ st p = 0) ∨ r = -1 := by
    rcases h2 with ⟨p, hp, e, ha, -⟩ | ⟨p, hp, e, ha, -, -⟩ | ⟨e, -⟩
    · exact Or.inl ⟨p, hp, e, ha.1⟩
    · exact Or.inl ⟨p, hp, e, ha.1⟩
    · exact Or.inr e
  rcases hcase with ⟨p, hp, rfl, h0⟩ | rfl
  · have e1 : f_F_leavesBlockFree st = some (kB (kL st p)) := by
      unfold f_F_leavesBlockFree
      rw [h1, Option.bind_some, if_neg (kn_neg1 (by omega))]
      exact ks_lvF st hp
    by_cases hL : kL st p
    · refine Or.inl ⟨⟨p, hp, h2, hL⟩, p, hp, h0, h1, ?_, h3, ?_⟩
      · rw [e1, kB_t hL]
      · rw [ks_lvR st hp, kB_t hL]
    · refine Or.inr ⟨fun ⟨q, hq, hP, hL'⟩ => ?_, ?_, nI p, h3, ?_⟩
      · have := (nI_eq (by omega) (by omega)).mp (kP_one hP h2)
        rw [this] at hL'
        exact hL hL'
      · rw [e1, kB_f hL]
      · rw [ks_lvR st hp, kB_f hL]
  · refine Or.inr ⟨fun ⟨q, hq, hP, hL'⟩ => kn_neg1 (by omega) (kP_one hP h2), ?_, -1, h3, ks_lvR0 st⟩
    unfold f_F_leavesBlockFree
    rw [h1, Option.bind_some, if_pos rfl]
    rfl
theorem kL_of {f : Nat → Int32} {p d : Nat} (hd : d < 4) (h : kX f p d) : kL f p := by
  rcases (show d = 0 ∨ d = 1 ∨ d = 2 ∨ d = 3 by omega) with rfl | rfl | rfl | rfl
  · exact Or.inl h
  · exact Or.inr (Or.inl h)
  · exact Or.inr (Or.inr (Or.inl h))
  · exact Or.inr (Or.inr (Or.inr h))
theorem kW_page {f : Nat → Int32} {b i : Nat} (h : kW f b) (hi : i < 4) : f (4 * b + i) = 0 := by
  refine Classical.byContradiction (fun e => ?_)
  unfold kW kN at h
  have t : ∀ j, (if f (4 * b + j) = 0 then 1 else 0) ≤ 1 := fun j => by split <;> decide
  have t0 := t 0
  have t1 := t 1
  have t2 := t 2
  have t3 := t 3
  rcases (show i = 0 ∨ i = 1 ∨ i = 2 ∨ i = 3 by omega) with rfl | rfl | rfl | rfl
  · rw [if_neg e] at h
    omega
  · rw [if_neg (show ¬ f (4 * b + 1) = 0 from e)] at h
    omega
  · rw [if_neg (show ¬ f (4 * b + 2) = 0 from e)] at h
    omega
  · rw [if_neg (show ¬ f (4 * b + 3) = 0 from e)] at h
    omega
/-- where no block is left free though one is free: the others have no free page -/
theorem kLv_not {f : Nat → Int32} {b : Nat} (hb : b < 4) (hw : kW f b) (h : ¬ kLv f) : ∀ q, q < 16 → f q = 0 → q / 4 = b := by
  intro q hq h0
  obtain ⟨r, -, hP⟩ := ks_fpF f (-1)
  obtain ⟨p, hp, rfl, hp0, -⟩ := kP_place hP ⟨q, hq, ks_nb hq, h0⟩
  have hno : ∀ d, d < 4 → ¬ d = p / 4 → ¬ kW f d := fun d hd h1 h2 => h ⟨p, hp, hP, kL_of hd ⟨h1, h2⟩⟩
  have hpb : b = p / 4 := Classical.byContradiction (fun e => hno b hb e hw)
  have hnA : ∀ q, q < 16 → ¬ kA f (-1) q := by
    rcases hP with ⟨p', hp', e, ha, -⟩ | ⟨p', hp', e, ha, hn, -⟩ | ⟨e, -⟩
    · exfalso
      have : p = p' := (nI_eq (by omega) (by omega)).mp e
      rw [← this] at ha
      exact ha.2.2 (hpb ▸ hw)
    · exact hn
    · exact absurd e (kn_neg1 (by omega))
  have hwq : kW f (q / 4) := Classical.byContradiction (fun e => hnA q hq ⟨h0, ks_nb hq, e⟩)
  exact Classical.byContradiction (fun e => hno (q / 4) (by omega) (fun e2 => e (by omega)) hwq)
theorem kN_zero {f : Nat → Int32} {b : Nat} {u : Int32} (h : ∀ i, i < 4 → ¬ f (4 * b + i) = u) : kN f b u = 0 := by
  unfold kN
  rw [if_neg (h 0 (by decide)), if_neg (h 1 (by decide)), if_neg (h 2 (by decide)), if_neg (h 3 (by decide))]
theorem kO_ge {f : Nat → Int32} {b d : Nat} (hb : b < 4) (hw : kW f b) (hd : ¬ d = b) : 4 ≤ kO f d := by
  unfold kW at hw
  unfold kO
  rcases (show b = 0 ∨ b = 1 ∨ b = 2 ∨ b = 3 by omega) with rfl | rfl | rfl | rfl
  · rw [if_neg (fun e => hd e.symm), hw]
    omega
  · rw [if_neg (show ¬ 1 = d from fun e => hd e.symm), hw]
    omega
  · rw [if_neg (show ¬ 2 = d from fun e => hd e.symm), hw]
    omega
  · rw [if_neg (show ¬ 3 = d from fun e => hd e.symm), hw]
    omega
/-- with one block whole free, something can be cleaned -/
theorem kT_any {st pl lg : Nat → Int32} (hI : kI st pl lg) {b : Nat} (hb : b < 4) (hw : kW st b) (h : ¬ kLv st) (er : Nat → Int32) : ∃ c, kT st er = some c ∧ ¬ c = b := by
  have hfree := kLv_not hb hw h
  have hnW : ∀ d, d < 4 → ¬ d = b → ¬ kW st d := fun d hd hdb hwd => by
    have := hfree (4 * d + 0) (by omega) (kW_page hwd (by decide))
    omega
  have h8 := kI_used hI
  have hcan : ∀ d, d < 4 → ¬ d = b → ¬ kC st d → kN st d 1 = 4 := fun d hd hdb hn => by
    have h4 := kN_le st d 1
    have hO := kO_ge hb hw hdb
    exact Classical.byContradiction (fun e => hn ⟨hnW d hd hdb, by omega, by omega⟩)
  cases hT : kT st er with
  | none =>
    exfalso
    obtain ⟨n0, n1, n2, n3⟩ := kT_none hT
    rcases (show b = 0 ∨ b = 1 ∨ b = 2 ∨ b = 3 by omega) with rfl | rfl | rfl | rfl
    · have := hcan 1 (by decide) (by decide) n1
      have := hcan 2 (by decide) (by decide) n2
      have := hcan 3 (by decide) (by decide) n3
      omega
    · have := hcan 0 (by decide) (by decide) n0
      have := hcan 2 (by decide) (by decide) n2
      have := hcan 3 (by decide) (by decide) n3
      omega
    · have := hcan 0 (by decide) (by decide) n0
      have := hcan 1 (by decide) (by decide) n1
      have := hcan 3 (by decide) (by decide) n3
      omega
    · have := hcan 0 (by decide) (by decide) n0
      have := hcan 1 (by decide) (by decide) n1
      have := hcan 2 (by decide) (by decide) n2
      omega
  | some c =>
    refine ⟨c, rfl, fun e => ?_⟩
    have := (kT_some hT).2.1
    rw [e] at this
    exact this hw
/-- a block is whole free and there is a free page elsewhere: one is left free -/
theorem kLv_yes {f : Nat → Int32} {c : Nat} (hc : c < 4) (hw : kW f c) (h : 0 < kO f c) : kLv f := by
  obtain ⟨q, hq, hqc, hq0⟩ := kO_any h
  obtain ⟨r, -, hP⟩ := ks_fpF f (-1)
  obtain ⟨p, hp, rfl, hp0, -⟩ := kP_place hP ⟨q, hq, ks_nb hq, hq0⟩
  refine ⟨p, hp, hP, ?_⟩
  by_cases e : c = p / 4
  · have hwq : kW f (q / 4) := by
      rcases hP with ⟨p', hp', e1, ha, -⟩ | ⟨p', hp', e1, ha, hn, -⟩ | ⟨e1, -⟩
      · exfalso
        have : p = p' := (nI_eq (by omega) (by omega)).mp e1
        rw [← this] at ha
        exact ha.2.2 (e ▸ hw)
      · exact Classical.byContradiction (fun e2 => hn q hq ⟨hq0, ks_nb hq, e2⟩)
      · exact absurd e1 (kn_neg1 (by omega))
    exact kL_of (d := q / 4) (by omega) ⟨fun e2 => hqc (by omega), hwq⟩
  · exact kL_of hc ⟨e, hw⟩
