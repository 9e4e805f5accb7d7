/-! Counts under change; a block is cleaned. -/
theorem kN_at {f g : Nat → Int32} {b : Nat} {u : Int32} (h : ∀ i, i < 4 → f (4 * b + i) = g (4 * b + i)) : kN f b u = kN g b u := by
  unfold kN
  rw [h 0 (by decide), h 1 (by decide), h 2 (by decide), h 3 (by decide)]
theorem kN_out (f : Nat → Int32) {q b : Nat} (x u : Int32) (h : ¬ q / 4 = b) : kN (upd f q x) b u = kN f b u := kN_at (fun i hi => pk_un (by omega))
theorem kN_take {f : Nat → Int32} {q b : Nat} {x : Int32} (hb : q / 4 = b) (h0 : f q = 0) (hx : ¬ x = 0) : kN (upd f q x) b 0 + 1 = kN f b 0 := by
  obtain ⟨i, hi, rfl⟩ : ∃ i, i < 4 ∧ q = 4 * b + i := ⟨q - 4 * b, by omega, by omega⟩
  unfold kN
  rcases (show i = 0 ∨ i = 1 ∨ i = 2 ∨ i = 3 by omega) with rfl | rfl | rfl | rfl
  · rw [pk_us, pk_un (by omega), pk_un (by omega), pk_un (by omega), if_neg hx, if_pos h0]
    omega
  · rw [pk_us, pk_un (by omega), pk_un (by omega), pk_un (by omega), if_neg hx, if_pos h0]
    omega
  · rw [pk_us, pk_un (by omega), pk_un (by omega), pk_un (by omega), if_neg hx, if_pos h0]
    omega
  · rw [pk_us, pk_un (by omega), pk_un (by omega), pk_un (by omega), if_neg hx, if_pos h0]
theorem kO_at {f g : Nat → Int32} {b : Nat} (h : ∀ q, ¬ q / 4 = b → f q = g q) : kO f b = kO g b := by
  have e : ∀ d, ¬ d = b → kN f d 0 = kN g d 0 := fun d hd => kN_at (fun i hi => h _ (by omega))
  unfold kO
  have t : ∀ d, (if d = b then 0 else kN f d 0) = (if d = b then 0 else kN g d 0) := fun d => by
    by_cases hd : d = b
    · rw [if_pos hd, if_pos hd]
    · rw [if_neg hd, if_neg hd, e d hd]
  rw [t 0, t 1, t 2, t 3]
theorem kO_take {f : Nat → Int32} {q b : Nat} {x : Int32} (hq : q < 16) (hb : ¬ q / 4 = b) (h0 : f q = 0) (hx : ¬ x = 0) : kO (upd f q x) b + 1 = kO f b := by
  have t : ∀ d, ¬ d = q / 4 → (if d = b then 0 else kN (upd f q x) d 0) = (if d = b then 0 else kN f d 0) := fun d hd => by
    by_cases e : d = b
    · rw [if_pos e, if_pos e]
    · rw [if_neg e, if_neg e, kN_out f x 0 (fun e => hd e.symm)]
  have s : (if q / 4 = b then 0 else kN (upd f q x) (q / 4) 0) + 1 = (if q / 4 = b then 0 else kN f (q / 4) 0) := by
    rw [if_neg hb, if_neg hb]
    exact kN_take rfl h0 hx
  unfold kO
  rcases (show q / 4 = 0 ∨ q / 4 = 1 ∨ q / 4 = 2 ∨ q / 4 = 3 by omega) with e | e | e | e <;> rw [e] at s t
  · rw [t 1 (by decide), t 2 (by decide), t 3 (by decide)]
    omega
  · rw [t 0 (by decide), t 2 (by decide), t 3 (by decide)]
    omega
  · rw [t 0 (by decide), t 1 (by decide), t 3 (by decide)]
    omega
  · rw [t 0 (by decide), t 1 (by decide), t 2 (by decide)]
    omega
/-- a free page outside -/
theorem kN_any {f : Nat → Int32} {b : Nat} {u : Int32} (h : 0 < kN f b u) : ∃ i, i < 4 ∧ f (4 * b + i) = u := by
  unfold kN at h
  by_cases h0 : f (4 * b + 0) = u
  · exact ⟨0, by decide, h0⟩
  by_cases h1 : f (4 * b + 1) = u
  · exact ⟨1, by decide, h1⟩
  by_cases h2 : f (4 * b + 2) = u
  · exact ⟨2, by decide, h2⟩
  by_cases h3 : f (4 * b + 3) = u
  · exact ⟨3, by decide, h3⟩
  rw [if_neg h0, if_neg h1, if_neg h2, if_neg h3] at h
  omega
theorem kO_any {f : Nat → Int32} {b : Nat} (h : 0 < kO f b) : ∃ q, q < 16 ∧ ¬ q / 4 = b ∧ f q = 0 := by
  have t : ∀ d, d < 4 → 0 < (if d = b then 0 else kN f d 0) → ∃ q, q < 16 ∧ ¬ q / 4 = b ∧ f q = 0 := fun d hd h => by
    by_cases e : d = b
    · rw [if_pos e] at h
      omega
    · rw [if_neg e] at h
      obtain ⟨i, hi, h1⟩ := kN_any h
      exact ⟨4 * d + i, by omega, by omega, h1⟩
  unfold kO at h
  by_cases h0 : 0 < (if 0 = b then 0 else kN f 0 0)
  · exact t 0 (by decide) h0
  by_cases h1 : 0 < (if 1 = b then 0 else kN f 1 0)
  · exact t 1 (by decide) h1
  by_cases h2 : 0 < (if 2 = b then 0 else kN f 2 0)
  · exact t 2 (by decide) h2
  by_cases h3 : 0 < (if 3 = b then 0 else kN f 3 0)
  · exact t 3 (by decide) h3
  omega
/-- what a place is -/
theorem kP_place {f : Nat → Int32} {bar r : Int32} (h : kP f bar r) (hf : ∃ q, q < 16 ∧ ¬ nI (q / 4) = bar ∧ f q = 0) : ∃ p, p < 16 ∧ r = nI p ∧ f p = 0 ∧ ¬ nI (p / 4) = bar := by
  rcases h with ⟨p, hp, e, ha, -⟩ | ⟨p, hp, e, ha, -, -⟩ | ⟨-, hn⟩
  · exact ⟨p, hp, e, ha.1, ha.2.1⟩
  · exact ⟨p, hp, e, ha.1, ha.2.1⟩
  · obtain ⟨q, hq, h1, h2⟩ := hf
    by_cases hw : kW f (q / 4)
    · exact absurd ⟨h2, h1, hw⟩ (hn q hq).2
    · exact absurd ⟨h2, h1, hw⟩ (hn q hq).1
theorem kP_at {f g : Nat → Int32} {b : Nat} (hb : b < 4) (h : ∀ q, ¬ q / 4 = b → f q = g q) {r : Int32} (hp : kP f (nI b) r) : kP g (nI b) r := by
  have a : ∀ q, q < 16 → (kA f (nI b) q ↔ kA g (nI b) q) := fun q hq => by
    unfold kA kW
    by_cases e : q / 4 = b
    · constructor
      · exact fun h1 => absurd (congrArg nI e) h1.2.1
      · exact fun h1 => absurd (congrArg nI e) h1.2.1
    · rw [h q e, kN_at (f := f) (g := g) (b := q / 4) (u := 0) (fun i hi => h _ (by omega))]
  have a' : ∀ q, q < 16 → (kA' f (nI b) q ↔ kA' g (nI b) q) := fun q hq => by
    unfold kA' kW
    by_cases e : q / 4 = b
    · constructor
      · exact fun h1 => absurd (congrArg nI e) h1.2.1
      · exact fun h1 => absurd (congrArg nI e) h1.2.1
    · rw [h q e, kN_at (f := f) (g := g) (b := q / 4) (u := 0) (fun i hi => h _ (by omega))]
  rcases hp with ⟨p, hp, e, ha, hn⟩ | ⟨p, hp, e, ha, hn, hm⟩ | ⟨e, hn⟩
  · exact Or.inl ⟨p, hp, e, (a p hp).mp ha, fun q hq h1 => hn q hq ((a q (by omega)).mpr h1)⟩
  · exact Or.inr (Or.inl ⟨p, hp, e, (a' p hp).mp ha, fun q hq h1 => hn q hq ((a q hq).mpr h1), fun q hq h1 => hm q hq ((a' q (by omega)).mpr h1)⟩)
  · exact Or.inr (Or.inr ⟨e, fun q hq => ⟨fun h1 => (hn q hq).1 ((a q hq).mpr h1), fun h1 => (hn q hq).2 ((a' q hq).mpr h1)⟩⟩)
/-- which logical page a place holds -/
theorem ks_lpF (pl : Nat → Int32) (v : Int32) : ∃ r, f_F_logicalPageAt pl v = some r ∧ ((r = -1 ∧ ∀ k, k < 8 → ¬ pl k = v) ∨ ∃ k, k < 8 ∧ r = nI k ∧ pl k = v) := by
  have run : ∀ j k n, k + j = 8 → j < n → (∀ q, q < k → ¬ pl q = v) → ∃ r, f_F_logicalPageAt_H n pl v (nI k) = some r ∧ ((r = -1 ∧ ∀ k, k < 8 → ¬ pl k = v) ∨ ∃ k, k < 8 ∧ r = nI k ∧ pl k = v) := by
    intro j
    induction j with
    | zero =>
      intro k n hk hn hA
      obtain ⟨n, rfl⟩ : ∃ m, n = m + 1 := ⟨n - 1, by omega⟩
      have : k = 8 := by omega
      subst this
      simp only [f_F_logicalPageAt_H]
      rw [if_pos (show (8 : Int32) ≤ nI 8 by decide)]
      exact ⟨-1, rfl, Or.inl ⟨rfl, hA⟩⟩
    | succ j ih =>
      intro k n hk hn hA
      obtain ⟨n, rfl⟩ : ∃ m, n = m + 1 := ⟨n - 1, by omega⟩
      simp only [f_F_logicalPageAt_H]
      rw [if_neg (show ¬ (8 : Int32) ≤ nI k from nI_ge (b := 8) (by omega) (by decide)), if_neg (nI_in (by omega) (by decide)), nI_clamp (by omega), nI_1 k]
      by_cases h : pl k = v
      · rw [if_pos h]
        exact ⟨nI k, rfl, Or.inr ⟨k, by omega, rfl, h⟩⟩
      · rw [if_neg h]
        refine ih (k + 1) n (by omega) (by omega) (fun q hq => ?_)
        by_cases e : q = k
        · rw [e]; exact h
        · exact hA q (by omega)
  exact run 8 0 100 (by decide) (by decide) (fun q hq => by omega)
/-- used pages of block b that are still to be moved -/
def krem (f : Nat → Int32) (b : Nat) : Nat → Nat
  | 0 => 0
  | j + 1 => (if f (4 * b + (3 - j)) = 1 then 1 else 0) + krem f b j
theorem krem_at {f g : Nat → Int32} {b j : Nat} (hj : j ≤ 4) (h : ∀ i, 4 - j ≤ i → i < 4 → f (4 * b + i) = g (4 * b + i)) : krem f b j = krem g b j := by
  induction j with
  | zero => rfl
  | succ j ih =>
    simp only [krem]
    rw [h (3 - j) (by omega) (by omega), ih (by omega) (fun i h1 h2 => h i (by omega) h2)]
theorem krem_4 (f : Nat → Int32) (b : Nat) : krem f b 4 = kN f b 1 := by
  simp only [krem, kN]
  rw [Nat.add_assoc, Nat.add_assoc]
  rfl
/-- while block b is cleaned, i pages seen -/
def kM (b i d : Nat) (st pl wd us lg : Nat → Int32) (x : Nat) : Prop :=
  kI st pl lg ∧ kWd wd ∧ x < 4095 ∧ (∀ q, ¬ (4 * b ≤ q ∧ q < 4 * b + i) → us q = st q) ∧ krem st b (4 - i) + d ≤ kO st b ∧ (∀ q, 4 * b ≤ q → q < 4 * b + i → ¬ st q = 1)
theorem kM_fin {b i d : Nat} (hb : b < 4) (hi : i < 4) {st pl wd us lg : Nat → Int32} {x : Nat} (M : kM b i d st pl wd us lg x) (h1 : ¬ st (4 * b + i) = 1) : kM b (i + 1) d st pl wd us lg x := by
  obtain ⟨m1, m2, m3, m4, m5, m6⟩ := M
  refine ⟨m1, m2, m3, fun q hq => m4 q (fun h => hq (by omega)), ?_, fun q hq hq2 => ?_⟩
  · have : krem st b (4 - i) = (if st (4 * b + i) = 1 then 1 else 0) + krem st b (4 - (i + 1)) := by
      rw [show 4 - i = (3 - i) + 1 by omega]
      simp only [krem]
      rw [show 3 - (3 - i) = i by omega, show 4 - (i + 1) = 3 - i by omega]
    rw [this, if_neg h1] at m5
    omega
  · by_cases e : q = 4 * b + i
    · rw [e]; exact h1
    · exact m6 q hq (by omega)
theorem krem_s (st : Nat → Int32) (b : Nat) {i : Nat} (hi : i < 4) (h1 : st (4 * b + i) = 1) : krem st b (4 - i) = 1 + krem st b (4 - (i + 1)) := by
  rw [show 4 - i = (3 - i) + 1 by omega]
  simp only [krem]
  rw [show 3 - (3 - i) = i by omega, show 4 - (i + 1) = 3 - i by omega, if_pos h1]
/-- one page of the block, in both -/
theorem ks_page {rm : Nat → Int32} (hrm : kR rm) {b i d : Nat} (hb : b < 4) (hi : i < 4) {st pl wd us lg : Nat → Int32} {x : Nat} (M : kM b i d st pl wd us lg x) (se er : Nat → Int32) (wr : Int32) (n m : Nat) :
    ∃ st' pl' wd' us' lg' se' x' wr', f_F_cleanBlock_H (n + 1) st pl wd er (nI x) 0 (nI b) (nI i) = f_F_cleanBlock_H n st' pl' wd' er (nI x') 0 (nI b) (nI (i + 1)) ∧
      f_R_cleanBlock_H (m + 1) rm wd us lg se er (kwh pl) (nI x) wr 0 (nI b) (nI (4 * b + i)) 0 = f_R_cleanBlock_H m rm wd' us' lg' se' er (kwh pl') (nI x') wr' 0 (nI b) (nI (4 * b + (i + 1))) 0 ∧ kM b (i + 1) d st' pl' wd' us' lg' x' := by
  obtain ⟨m1, m2, m3, m4, m5, m6⟩ := M
  have hp : 4 * b + i < 16 := by omega
  have hin' : ¬ (nI (4 * b + i) < 0 ∨ 16 ≤ 4 * b + i) := fun e => e.elim (nI_pos (by omega)) (by omega)
  have hu : us (4 * b + i) = st (4 * b + i) := m4 _ (by omega)
  have eend : (4 : Int32) * nI b + (4 : Int32) = nI (4 * b + 4) := ks_idx' b 4
  simp only [f_F_cleanBlock_H, f_R_cleanBlock_H, f_F_placeOf, Option.bind_some, f_R_cleanBlock_J66]
  rw [if_neg (show ¬ (4 : Int32) ≤ nI i from nI_ge (b := 4) hi (by decide)), ks_idx, nI_1 i, eend, if_neg (nI_ge (a := 4 * b + i) (b := 4 * b + 4) (by omega) (by omega)), if_neg (nI_in hp (by decide)), nI_clamp (by omega), nI_1 (4 * b + i), hu]
  obtain ⟨r, hr1, hr2⟩ := ks_lpF pl (nI (4 * b + i))
  by_cases h1 : st (4 * b + i) = 1
  · rw [if_pos h1]
    obtain ⟨k, hk, hlg, hplk⟩ := m1.2 _ hp h1
    have hrk : r = nI k := by
      rcases hr2 with ⟨-, hn⟩ | ⟨k', hk', e, e2⟩
      · exact absurd hplk (hn k hk)
      · rcases m1.1 k' hk' with e3 | ⟨p', hp', e3, -, h4⟩
        · rw [e3] at e2
          exact absurd e2.symm (kn_neg1 (by omega))
        · have : p' = 4 * b + i := (nI_eq (by omega) (by omega)).mp (e3.symm.trans e2)
          rw [this, hlg] at h4
          rw [e, h4]
    obtain ⟨wr1, hrd⟩ := kp_readR m2 hrm wr hp
    have hmv : f_F_moveAway st pl wd (nI x) (nI (4 * b + i)) = (f_M_isReadable wd (nI (4 * b + i))).bind fun r17 => if r17 = 0 then ((f_F_forget st pl (nI k)).bind fun (st45, pl45) => f_F_moveAway_J48 st45 pl45 wd (nI x)) else ((f_M_contentAt wd (nI (4 * b + i))).bind fun r30 => (f_F_blockOf (nI (4 * b + i))).bind fun r34 => (f_F_put st pl wd (nI x) (nI k) r30 r34).bind fun (st37, pl37, wd37, nx37) => f_F_moveAway_J48 st37 pl37 wd37 nx37) := by
      unfold f_F_moveAway
      rw [hr1, Option.bind_some, hrk, if_neg (kn_neg1 (by omega))]
    rw [hmv, kp_readF m2 hp, Option.bind_some, hrd, Option.bind_some]
    by_cases hR : kRd wd (4 * b + i)
    · rw [if_neg (by rw [kB_t hR]; decide)]
      obtain ⟨wr2, hct⟩ := kp_contR m2 hrm wr1 hp hR
      obtain ⟨z, hz, hP⟩ := ks_fpF st (nI b)
      have hpos : 0 < kO st b := by
        rw [krem_s st b hi h1] at m5
        omega
      obtain ⟨q, hq, hqb, hq0⟩ := kO_any hpos
      obtain ⟨t, ht, rfl, ht0, htb⟩ := kP_place hP ⟨q, hq, fun e => hqb ((nI_eq (by omega) (by omega)).mp e), hq0⟩
      have htb' : ¬ t / 4 = b := fun e => htb (congrArg nI e)
      obtain ⟨z', hz', hP'⟩ := ks_fpR us (nI b)
      have hzz : z' = nI t := kP_one (kP_at hb (fun q hq => m4 q (fun h => hq (by omega))) hP') hP
      rw [hzz] at hz'
      rw [kp_contF m2 hp hR, Option.bind_some]
      unfold f_F_blockOf
      rw [Option.bind_some, ks_div4 hp, show (4 * b + i) / 4 = b by omega, ks_putF m1 hk ht m3 _ hz, Option.bind_some]
      show ∃ st' pl' wd' us' lg' se' x' wr', (f_F_moveAway_J48 (upd (kfs st pl k) t 1) (upd pl k (nI t)) (kpr wd t (kct wd (4 * b + i)) (4096 * k + x)) (nI (kNx x))).bind _ = _ ∧ (if kB (kRd wd (4 * b + i)) = 0 then _ else _) = _ ∧ _
      rw [if_neg (by rw [kB_t hR]; decide), hz', Option.bind_some, if_neg hin', hct, Option.bind_some]
      show ∃ st' pl' wd' us' lg' se' x' wr', _ ∧ (f_R_put rm wd us lg se (kwh pl) (nI x) (nI t) (lg (4 * b + i)) (kct wd (4 * b + i))).bind _ = _ ∧ _
      rw [hlg, ks_putR hrm m1 hk ht m3, Option.bind_some]
      refine ⟨upd (kfs st pl k) t 1, upd pl k (nI t), kpr wd t (kct wd (4 * b + i)) (4096 * k + x), kus us pl k t, upd lg t (nI k), upd se t (nI x), kNx x, wr2, rfl, rfl, ?_⟩
      have hplp : kfs st pl k (4 * b + i) = 2 := kfs_pl m1 hp hplk
      have hkfs : ∀ q, ¬ q = 4 * b + i → kfs st pl k q = st q := fun q hq => by
        rcases kfs_at m1 hk q with e | ⟨-, h2, h3, -⟩
        · exact e
        · exact absurd ((nI_eq (by omega) (by omega)).mp (h3.symm.trans hplk)) hq
      have hst : ∀ q, 4 * b ≤ q → q < 4 * b + 4 → upd (kfs st pl k) t 1 q = kfs st pl k q := fun q h2 h3 => pk_un (fun e => htb' (by omega))
      refine ⟨kI_put m1 hk ht ht0, kpr_wd m2 ht _ (by omega), kNx_lt m3, fun q hq => kus_at m1 hk ht0 (m4 q (fun h => hq (by omega))), ?_, fun q h2 h3 => ?_⟩
      · have hk0 : kfs st pl k t = 0 := by rw [hkfs t (fun e => htb' (by omega)), ht0]
        have e1 := kO_take (f := kfs st pl k) (b := b) (x := 1) ht htb' hk0 (by decide)
        have e2 : kO (kfs st pl k) b = kO st b := kO_at (fun q hq => hkfs q (fun e => hq (by omega)))
        have e3 : krem (upd (kfs st pl k) t 1) b (4 - (i + 1)) = krem st b (4 - (i + 1)) := krem_at (by omega) (fun j h2 h3 => by
          rw [hst _ (by omega) (by omega), hkfs _ (by omega)])
        rw [krem_s st b hi h1] at m5
        rw [e3]
        omega
      · rw [hst q h2 (by omega)]
        by_cases e : q = 4 * b + i
        · rw [e, hplp]
          decide
        · rw [hkfs q e]
          exact m6 q h2 (by omega)
    · rw [if_pos (kB_f hR), ks_forget m1 hk, Option.bind_some]
      show ∃ st' pl' wd' us' lg' se' x' wr', (f_F_moveAway_J48 (kfs st pl k) (kfp pl k) wd (nI x)).bind _ = _ ∧ (if kB (kRd wd (4 * b + i)) = 0 then _ else _) = _ ∧ _
      rw [if_pos (kB_f hR), if_neg hin', hlg, if_neg (nI_in hk (by decide)), nI_clamp (by omega), kwh_upd0]
      have hfp : kfp pl k = upd pl k (-1) := by
        unfold kfp
        rw [if_neg (by rw [hplk]; exact kn_neg1 (by omega))]
      rw [hfp]
      refine ⟨kfs st pl k, upd pl k (-1), wd, us, lg, se, x, wr1, rfl, rfl, ?_⟩
      have hplp : kfs st pl k (4 * b + i) = 2 := kfs_pl m1 hp hplk
      have hkfs : ∀ q, ¬ q = 4 * b + i → kfs st pl k q = st q := fun q hq => by
        rcases kfs_at m1 hk q with e | ⟨-, h2, h3, -⟩
        · exact e
        · exact absurd ((nI_eq (by omega) (by omega)).mp (h3.symm.trans hplk)) hq
      have hI := kI_forget m1 hk
      rw [hfp] at hI
      refine ⟨hI, m2, m3, fun q hq => ?_, ?_, fun q h2 h3 => ?_⟩
      · rw [hkfs q (fun e => hq (by omega))]
        exact m4 q (fun h => hq (by omega))
      · have e2 : kO (kfs st pl k) b = kO st b := kO_at (fun q hq => hkfs q (fun e => hq (by omega)))
        have e3 : krem (kfs st pl k) b (4 - (i + 1)) = krem st b (4 - (i + 1)) := krem_at (by omega) (fun j h2 h3 => hkfs _ (by omega))
        rw [krem_s st b hi h1] at m5
        rw [e2, e3]
        omega
      · by_cases e : q = 4 * b + i
        · rw [e, hplp]
          decide
        · rw [hkfs q e]
          exact m6 q h2 (by omega)
  · rw [if_neg h1]
    have hrm1 : r = -1 := by
      rcases hr2 with ⟨e, -⟩ | ⟨k', hk', e, e2⟩
      · exact e
      · exfalso
        rcases m1.1 k' hk' with e3 | ⟨p', hp', e3, h3, -⟩
        · rw [e3] at e2
          exact absurd e2.symm (kn_neg1 (by omega))
        · have : p' = 4 * b + i := (nI_eq (by omega) (by omega)).mp (e3.symm.trans e2)
          rw [this] at h3
          exact h1 h3
    have hmv : f_F_moveAway st pl wd (nI x) (nI (4 * b + i)) = some (st, pl, wd, nI x) := by
      unfold f_F_moveAway
      rw [hr1, Option.bind_some, hrm1, if_pos rfl]
    rw [hmv, Option.bind_some]
    exact ⟨st, pl, wd, us, lg, se, x, wr, rfl, rfl, kM_fin hb hi ⟨m1, m2, m3, m4, m5, m6⟩ h1⟩
/-- all pages of the block, in both -/
theorem ks_pages {rm : Nat → Int32} (hrm : kR rm) {b d : Nat} (hb : b < 4) (er : Nat → Int32) (j : Nat) : ∀ (i : Nat) (st pl wd us lg se : Nat → Int32) (x : Nat) (wr : Int32) (n m : Nat), i + j = 4 → kM b i d st pl wd us lg x →
    ∃ st' pl' wd' us' lg' se' x' wr', f_F_cleanBlock_H (n + j) st pl wd er (nI x) 0 (nI b) (nI i) = f_F_cleanBlock_H n st' pl' wd' er (nI x') 0 (nI b) (nI 4) ∧
      f_R_cleanBlock_H (m + j) rm wd us lg se er (kwh pl) (nI x) wr 0 (nI b) (nI (4 * b + i)) 0 = f_R_cleanBlock_H m rm wd' us' lg' se' er (kwh pl') (nI x') wr' 0 (nI b) (nI (4 * b + 4)) 0 ∧ kM b 4 d st' pl' wd' us' lg' x' := by
  induction j with
  | zero =>
    intro i st pl wd us lg se x wr n m hi M
    have : i = 4 := by omega
    subst this
    exact ⟨st, pl, wd, us, lg, se, x, wr, rfl, rfl, M⟩
  | succ j ih =>
    intro i st pl wd us lg se x wr n m hi M
    obtain ⟨st1, pl1, wd1, us1, lg1, se1, x1, wr1, e1, e2, M1⟩ := ks_page hrm hb (by omega) M se er wr (n + j) (m + j)
    obtain ⟨st2, pl2, wd2, us2, lg2, se2, x2, wr2, e3, e4, M2⟩ := ih (i + 1) st1 pl1 wd1 us1 lg1 se1 x1 wr1 n m (by omega) M1
    exact ⟨st2, pl2, wd2, us2, lg2, se2, x2, wr2, e1.trans e3, e2.trans e4, M2⟩
/-! The block is erased. -/
/-- words a .. b - 1 are all ones -/
def kEr (wd : Nat → Int32) (a b : Nat) : Nat → Int32 := fun q => if a ≤ q ∧ q < b then 2147483647 else wd q
theorem kEr_0 (wd : Nat → Int32) (a : Nat) : kEr wd a a = wd := by
  funext q
  unfold kEr
  rw [if_neg (by omega)]
theorem kEr_s (wd : Nat → Int32) {a b : Nat} (h : a ≤ b) : upd (kEr wd a b) b 2147483647 = kEr wd a (b + 1) := by
  funext q
  by_cases e : q = b
  · rw [e, pk_us]
    unfold kEr
    rw [if_pos (by omega)]
  · rw [pk_un e]
    unfold kEr
    by_cases h1 : a ≤ q ∧ q < b
    · rw [if_pos h1, if_pos (by omega)]
    · rw [if_neg h1, if_neg (by omega)]
/-- pages a .. b - 1 are free -/
def kCl (st : Nat → Int32) (a b : Nat) : Nat → Int32 := fun q => if a ≤ q ∧ q < b then 0 else st q
theorem kCl_0 (st : Nat → Int32) (a : Nat) : kCl st a a = st := by
  funext q
  unfold kCl
  rw [if_neg (by omega)]
theorem kCl_s (st : Nat → Int32) {a b : Nat} (h : a ≤ b) : upd (kCl st a b) b 0 = kCl st a (b + 1) := by
  funext q
  by_cases e : q = b
  · rw [e, pk_us]
    unfold kCl
    rw [if_pos (by omega)]
  · rw [pk_un e]
    unfold kCl
    by_cases h1 : a ≤ q ∧ q < b
    · rw [if_pos h1, if_pos (by omega)]
    · rw [if_neg h1, if_neg (by omega)]
theorem ks_eraF (wd er : Nat → Int32) {b : Nat} (hb : b < 4) : f_M_erase wd er (nI b) = some (kEr wd (20 * b) (20 * b + 20), upd er b (er b + 1)) := by
  have run : ∀ j k n, k + j = 20 → j < n → f_M_erase_H n (kEr wd (20 * b) (20 * b + k)) er (nI b) (nI (20 * b)) (nI k) = some (kEr wd (20 * b) (20 * b + 20), upd er b (er b + 1)) := by
    intro j
    induction j with
    | zero =>
      intro k n hk hn
      obtain ⟨n, rfl⟩ : ∃ m, n = m + 1 := ⟨n - 1, by omega⟩
      have : k = 20 := by omega
      subst this
      simp only [f_M_erase_H]
      rw [if_pos (show (20 : Int32) ≤ nI 20 by decide), if_neg (nI_in hb (by decide)), nI_clamp (by omega)]
    | succ j ih =>
      intro k n hk hn
      obtain ⟨n, rfl⟩ : ∃ m, n = m + 1 := ⟨n - 1, by omega⟩
      simp only [f_M_erase_H]
      rw [if_neg (show ¬ (20 : Int32) ≤ nI k from nI_ge (b := 20) (by omega) (by decide)), nI_add, if_neg (nI_in (by omega) (by decide)), nI_clamp (by omega), kEr_s wd (by omega), nI_1 k]
      exact ih (k + 1) n (by omega) (by omega)
  unfold f_M_erase f_F_placeOf
  rw [Option.bind_some, show (nI b * (4 : Int32) + 0) * 5 = nI (20 * b) by
    rw [show nI b * (4 : Int32) + 0 = nI (4 * b + 0) from ks_idx b 0]
    show nI (4 * b + 0) * nI 5 = _
    rw [pk_mul, show (4 * b + 0) * 5 = 20 * b by omega]]
  have := run 20 0 100 (by decide) (by decide)
  rw [Nat.add_zero, kEr_0] at this
  exact this
theorem ks_freF (st pl wd er : Nat → Int32) (nx : Int32) {b : Nat} (hb : b < 4) (n : Nat) : f_F_cleanBlock_H (n + 1 + 1 + 1 + 1 + 1) st pl wd er nx 1 (nI b) (nI 0) = some (kCl st (4 * b) (4 * b + 4), pl, wd, er, nx) := by
  have step : ∀ (n k : Nat), k < 4 → f_F_cleanBlock_H (n + 1) (kCl st (4 * b) (4 * b + k)) pl wd er nx 1 (nI b) (nI k) = f_F_cleanBlock_H n (kCl st (4 * b) (4 * b + (k + 1))) pl wd er nx 1 (nI b) (nI (k + 1)) := by
    intro n k hk
    simp only [f_F_cleanBlock_H, f_F_placeOf, Option.bind_some]
    rw [if_neg (show ¬ (4 : Int32) ≤ nI k from nI_ge (b := 4) hk (by decide)), ks_idx, if_neg (nI_in (by omega) (by decide)), nI_clamp (by omega), kCl_s st (by omega), nI_1 k]
    rfl
  have s0 := step (n + 1 + 1 + 1 + 1) 0 (by decide)
  rw [show 4 * b + 0 = 4 * b from rfl, kCl_0] at s0
  rw [s0, step _ 1 (by decide), step _ 2 (by decide), step _ 3 (by decide)]
  simp only [f_F_cleanBlock_H]
  rw [if_pos (show (4 : Int32) ≤ nI (3 + 1) by decide)]
/-- the reference's erasing -/
theorem ks_eraR {rm wd us lg se er wh : Nat → Int32} {nx wr : Int32} {b : Nat} (hb : b < 4) (n : Nat) (hn : 40 ≤ n) : f_R_cleanBlock_H n rm wd us lg se er wh nx wr 1 (nI b) (nI (4 * b)) 0 = some (kEr wd (20 * b) (20 * b + 20), kCl us (4 * b) (4 * b + 4), lg, se, upd er b (er b + 1), wh, nx, wr) := by
  have eend : (4 : Int32) * nI b + (4 : Int32) = nI (4 * b + 4) := ks_idx' b 4
  have words : ∀ j k n us i, i < 4 → k + j = 5 → f_R_cleanBlock_H (n + j + 1) rm (kEr wd (20 * b) (20 * b + 5 * i + k)) us lg se er wh nx wr 2 (nI b) (nI (4 * b + i)) (nI k) = f_R_cleanBlock_H n rm (kEr wd (20 * b) (20 * b + 5 * (i + 1))) us lg se er wh nx wr 1 (nI b) (nI (4 * b + (i + 1))) 0 := by
    intro j
    induction j with
    | zero =>
      intro k n us i hi hk
      have : k = 5 := by omega
      subst this
      simp only [f_R_cleanBlock_H]
      rw [if_pos (show (5 : Int32) ≤ nI 5 by decide), nI_1 (4 * b + i)]
      rfl
    | succ j ih =>
      intro k n us i hi hk
      rw [show n + (j + 1) + 1 = (n + j + 1) + 1 by omega]
      simp only [f_R_cleanBlock_H]
      rw [if_neg (show ¬ (5 : Int32) ≤ nI k from nI_ge (b := 5) (by omega) (by decide)), kp_idx', if_neg (nI_in (by omega) (by decide)), nI_clamp (by omega), show 5 * (4 * b + i) + k = 20 * b + 5 * i + k by omega, kEr_s wd (by omega), nI_1 k]
      exact ih (k + 1) n us i hi (by omega)
  have st1 : ∀ (n : Nat) (wd us : Nat → Int32) (i : Nat), i < 4 → f_R_cleanBlock_H (n + 1) rm wd us lg se er wh nx wr 1 (nI b) (nI (4 * b + i)) 0 = f_R_cleanBlock_H n rm wd (upd us (4 * b + i) 0) lg se er wh nx wr 2 (nI b) (nI (4 * b + i)) 0 := by
    intro n wd us i hi
    simp only [f_R_cleanBlock_H]
    rw [eend, if_neg (nI_ge (a := 4 * b + i) (b := 4 * b + 4) (by omega) (by omega)), if_neg (nI_in (by omega) (by decide)), nI_clamp (by omega)]
  have pages : ∀ j i n, i + j = 4 → f_R_cleanBlock_H (n + 7 * j + 1) rm (kEr wd (20 * b) (20 * b + 5 * i)) (kCl us (4 * b) (4 * b + i)) lg se er wh nx wr 1 (nI b) (nI (4 * b + i)) 0 = some (kEr wd (20 * b) (20 * b + 20), kCl us (4 * b) (4 * b + 4), lg, se, upd er b (er b + 1), wh, nx, wr) := by
    intro j
    induction j with
    | zero =>
      intro i n hi
      have : i = 4 := by omega
      subst this
      simp only [f_R_cleanBlock_H]
      rw [eend, if_pos (nI_le (Nat.le_refl _) (by omega)), if_neg (nI_in hb (by decide)), nI_clamp (by omega)]
    | succ j ih =>
      intro i n hi
      rw [show n + 7 * (j + 1) + 1 = (n + 7 * j + 1 + 5 + 1) + 1 by omega]
      rw [st1 _ _ _ i (by omega), kCl_s us (by omega)]
      have := words 5 0 (n + 7 * j + 1) (kCl us (4 * b) (4 * b + i + 1)) i (by omega) (by decide)
      rw [show 20 * b + 5 * i + 0 = 20 * b + 5 * i from rfl] at this
      exact this.trans (ih (i + 1) n (by omega))
  have := pages 4 0 (n - 29) (by decide)
  rw [show n - 29 + 7 * 4 + 1 = n by omega, show 20 * b + 5 * 0 = 20 * b by omega, show 4 * b + 0 = 4 * b from rfl, kEr_0, kCl_0] at this
  exact this
theorem kEr_wd {wd : Nat → Int32} (h : kWd wd) (a b : Nat) : kWd (kEr wd a b) := by
  intro j hj
  unfold kEr
  split
  · exact ⟨2147483647, by decide, rfl⟩
  · exact h j hj
theorem kI_clean {st pl lg : Nat → Int32} {b : Nat} (h : kI st pl lg) (hno : ∀ q, 4 * b ≤ q → q < 4 * b + 4 → ¬ st q = 1) : kI (kCl st (4 * b) (4 * b + 4)) pl lg := by
  constructor
  · intro k hk
    rcases h.1 k hk with e | ⟨p, hp, e, h1, h2⟩
    · exact Or.inl e
    · refine Or.inr ⟨p, hp, e, ?_, h2⟩
      unfold kCl
      rw [if_neg (fun h3 => hno p h3.1 h3.2 h1), h1]
  · intro p hp h1
    unfold kCl at h1
    by_cases e : 4 * b ≤ p ∧ p < 4 * b + 4
    · rw [if_pos e] at h1
      exact absurd h1 (by decide)
    · rw [if_neg e] at h1
      exact h.2 p hp h1
/-- a block is cleaned, in both alike -/
theorem ks_clean {rm : Nat → Int32} (hrm : kR rm) {b : Nat} (hb : b < 4) {st pl wd lg : Nat → Int32} {x : Nat} (hI : kI st pl lg) (hw : kWd wd) (hx : x < 4095) (hc : kN st b 1 ≤ kO st b) (se er : Nat → Int32) (wr : Int32) :
    ∃ st' pl' wd' er' lg' se' x' wr', f_F_cleanBlock st pl wd er (nI x) (nI b) = some (st', pl', wd', er', nI x') ∧ f_R_cleanBlock rm wd st lg se er (kwh pl) (nI x) wr (nI b) = some (wd', st', lg', se', er', kwh pl', nI x', wr') ∧
      kI st' pl' lg' ∧ kWd wd' ∧ x' < 4095 ∧ kW st' b ∧ kO st b ≤ kO st' b + kN st b 1 := by
  have M : kM b 0 (kO st b - kN st b 1) st pl wd st lg x := by
    refine ⟨hI, hw, hx, fun q _ => rfl, ?_, fun q h1 h2 => by omega⟩
    show krem st b 4 + _ ≤ _
    rw [krem_4]
    omega
  obtain ⟨st1, pl1, wd1, us1, lg1, se1, x1, wr1, e1, e2, m1, m2, m3, m4, m5, m6⟩ := ks_pages hrm hb er 4 0 st pl wd st lg se x wr 96 96 (by decide) M
  have hus : kCl us1 (4 * b) (4 * b + 4) = kCl st1 (4 * b) (4 * b + 4) := by
    funext q
    unfold kCl
    by_cases e : 4 * b ≤ q ∧ q < 4 * b + 4
    · rw [if_pos e, if_pos e]
    · rw [if_neg e, if_neg e, m4 q e]
  refine ⟨kCl st1 (4 * b) (4 * b + 4), pl1, kEr wd1 (20 * b) (20 * b + 20), upd er b (er b + 1), lg1, se1, x1, wr1, ?_, ?_, kI_clean m1 m6, kEr_wd m2 _ _, m3, ?_, ?_⟩
  · show f_F_cleanBlock_H (96 + 4) st pl wd er (nI x) 0 (nI b) (nI 0) = _
    rw [e1]
    show f_F_cleanBlock_H (95 + 1) st1 pl1 wd1 er (nI x1) 0 (nI b) (nI 4) = _
    rw [f_F_cleanBlock_H, if_pos (show (4 : Int32) ≤ nI 4 by decide), ks_eraF wd1 er hb, Option.bind_some]
    exact ks_freF st1 pl1 _ _ _ hb 90
  · unfold f_R_cleanBlock
    rw [show (4 : Int32) * nI b = nI (4 * b) from pk_mul 4 b]
    show f_R_cleanBlock_H (96 + 4) rm wd st lg se er (kwh pl) (nI x) wr 0 (nI b) (nI (4 * b + 0)) 0 = _
    rw [e2]
    show f_R_cleanBlock_H (95 + 1) rm wd1 us1 lg1 se1 er (kwh pl1) (nI x1) wr1 0 (nI b) (nI (4 * b + 4)) 0 = _
    rw [f_R_cleanBlock_H, show (4 : Int32) * nI b + (4 : Int32) = nI (4 * b + 4) from ks_idx' b 4, if_pos (nI_le (Nat.le_refl _) (by omega)), show (4 : Int32) * nI b = nI (4 * b) from pk_mul 4 b, ks_eraR hb 95 (by decide), hus]
  · have z : ∀ i, i < 4 → kCl st1 (4 * b) (4 * b + 4) (4 * b + i) = 0 := fun i hi => by
      unfold kCl
      rw [if_pos (by omega)]
    unfold kW kN
    rw [z 0 (by decide), z 1 (by decide), z 2 (by decide), z 3 (by decide)]
    rfl
  · have e : kO (kCl st1 (4 * b) (4 * b + 4)) b = kO st1 b := kO_at (fun q hq => by
      unfold kCl
      rw [if_neg (fun h => hq (by omega))])
    have : krem st1 b (4 - 4) = 0 := rfl
    rw [this] at m5
    rw [e]
    omega
