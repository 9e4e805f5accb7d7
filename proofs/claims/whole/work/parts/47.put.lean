/-! A page is put, forgotten. -/
theorem ku_u (f : Nat → Int32) (k : Nat) (x y : Int32) : upd (upd f k x) k y = upd f k y := by
  funext q
  by_cases h : q = k
  · rw [h, pk_us, pk_us]
  · rw [pk_un h, pk_un h, pk_un h]
/-- the reference's table of places -/
def kwh (pl : Nat → Int32) : Nat → Int32 := fun k => pl k + 1
theorem kwh_upd (pl : Nat → Int32) (k : Nat) (x : Int32) : upd (kwh pl) k (x + 1) = kwh (upd pl k x) := by
  funext q
  unfold kwh
  by_cases h : q = k
  · rw [h, pk_us, pk_us]
  · rw [pk_un h, pk_un h]
theorem kwh_upd0 (pl : Nat → Int32) (k : Nat) : upd (kwh pl) k 0 = kwh (upd pl k (-1)) := by
  have h := kwh_upd pl k (-1)
  rwa [show (-1 : Int32) + 1 = 0 by decide] at h
/-- places and states fit -/
def kI (st pl lg : Nat → Int32) : Prop := (∀ k, k < 8 → pl k = -1 ∨ ∃ p, p < 16 ∧ pl k = nI p ∧ st p = 1 ∧ lg p = nI k) ∧ (∀ p, p < 16 → st p = 1 → ∃ k, k < 8 ∧ lg p = nI k ∧ pl k = nI p)
def kfs (st pl : Nat → Int32) (k : Nat) : Nat → Int32 := if pl k = -1 then st else upd st (pl k).toNatClampNeg 2
def kfp (pl : Nat → Int32) (k : Nat) : Nat → Int32 := if pl k = -1 then pl else upd pl k (-1)
theorem kfp_upd (pl : Nat → Int32) (k : Nat) (x : Int32) : upd (kfp pl k) k x = upd pl k x := by
  unfold kfp
  split
  · rfl
  · exact ku_u _ _ _ _
theorem ks_forget {st pl lg : Nat → Int32} (h : kI st pl lg) {k : Nat} (hk : k < 8) : f_F_forget st pl (nI k) = some (kfs st pl k, kfp pl k) := by
  unfold f_F_forget f_F_forget_J29 kfs kfp
  rw [if_neg (nI_in hk (by decide)), nI_clamp (by omega)]
  by_cases e : pl k = -1
  · rw [if_pos e, if_pos e, if_pos e]
  · rcases h.1 k hk with e' | ⟨p, hp, e', -, -⟩
    · exact absurd e' e
    · rw [if_neg e, if_neg e, if_neg e, if_neg (by rw [e']; exact nI_in hp (by decide))]
theorem ks_hold (st pl : Nat → Int32) {k r : Nat} (hk : k < 8) (hr : r < 16) : f_F_hold st pl (nI k) (nI r) = some (upd st r 1, upd pl k (nI r)) := by
  unfold f_F_hold
  rw [if_neg (nI_in hr (by decide)), if_neg (nI_in hk (by decide)), nI_clamp (by omega), nI_clamp (by omega)]
/-- what a forgotten page changes -/
theorem kfs_at {st pl lg : Nat → Int32} (h : kI st pl lg) {k : Nat} (hk : k < 8) (q : Nat) : kfs st pl k q = st q ∨ (kfs st pl k q = 2 ∧ q < 16 ∧ pl k = nI q ∧ st q = 1) := by
  unfold kfs
  by_cases e : pl k = -1
  · rw [if_pos e]
    exact Or.inl rfl
  · rcases h.1 k hk with e' | ⟨p, hp, e', h1, -⟩
    · exact absurd e' e
    · rw [if_neg e, e', nI_clamp (by omega)]
      by_cases hq : q = p
      · rw [hq, pk_us]
        exact Or.inr ⟨rfl, hp, rfl, h1⟩
      · rw [pk_un hq]
        exact Or.inl rfl
theorem kfs_pl {st pl lg : Nat → Int32} (h : kI st pl lg) {k p : Nat} (hp : p < 16) (e : pl k = nI p) : kfs st pl k p = 2 := by
  unfold kfs
  rw [if_neg (by rw [e]; exact kn_neg1 (by omega)), e, nI_clamp (by omega), pk_us]
theorem kfp_k (pl : Nat → Int32) (k : Nat) : kfp pl k k = -1 := by
  unfold kfp
  split
  · assumption
  · exact pk_us
theorem kfp_ne (pl : Nat → Int32) {k j : Nat} (h : j ≠ k) : kfp pl k j = pl j := by
  unfold kfp
  split
  · rfl
  · exact pk_un h
theorem kI_forget {st pl lg : Nat → Int32} (h : kI st pl lg) {k : Nat} (hk : k < 8) : kI (kfs st pl k) (kfp pl k) lg := by
  constructor
  · intro j hj
    by_cases e : j = k
    · rw [e]
      exact Or.inl (kfp_k pl k)
    · rw [kfp_ne pl e]
      rcases h.1 j hj with e' | ⟨p, hp, e', h1, h2⟩
      · exact Or.inl e'
      · refine Or.inr ⟨p, hp, e', ?_, h2⟩
        rcases kfs_at h hk p with h3 | ⟨-, -, h4, -⟩
        · rw [h3, h1]
        · exfalso
          rcases h.1 k hk with e2 | ⟨p2, hp2, e2, -, h6⟩
          · rw [e2] at h4
            exact kn_neg1 (by omega) h4.symm
          · have : p2 = p := (nI_eq (by omega) (by omega)).mp (e2.symm.trans h4)
            rw [this, h2] at h6
            exact e ((nI_eq (by omega) (by omega)).mp h6)
  · intro p hp h1
    rcases kfs_at h hk p with h3 | ⟨h3, -⟩
    · rw [h3] at h1
      obtain ⟨j, hj, h4, h5⟩ := h.2 p hp h1
      refine ⟨j, hj, h4, ?_⟩
      by_cases e : j = k
      · rw [e] at h5
        rw [kfs_pl h hp h5, h1] at h3
        exact absurd h3 (by decide)
      · rw [kfp_ne pl e]
        exact h5
    · rw [h3] at h1
      exact absurd h1 (by decide)
/-- a page is put at the free place r -/
theorem kI_put {st pl lg : Nat → Int32} (h : kI st pl lg) {k r : Nat} (hk : k < 8) (hr : r < 16) (h0 : st r = 0) : kI (upd (kfs st pl k) r 1) (upd pl k (nI r)) (upd lg r (nI k)) := by
  have h' := kI_forget h hk
  rw [← kfp_upd pl k (nI r)]
  have hr0 : kfs st pl k r ≠ 1 := by
    rcases kfs_at h hk r with e | ⟨e, -⟩
    · rw [e, h0]
      decide
    · rw [e]
      decide
  constructor
  · intro j hj
    by_cases e : j = k
    · rw [e, pk_us]
      exact Or.inr ⟨r, hr, rfl, pk_us, pk_us⟩
    · rw [pk_un e]
      rcases h'.1 j hj with e' | ⟨p, hp, e', h1, h2⟩
      · exact Or.inl e'
      · have hpr : p ≠ r := fun e2 => hr0 (by rw [← e2]; exact h1)
        exact Or.inr ⟨p, hp, e', by rw [pk_un hpr]; exact h1, by rw [pk_un hpr]; exact h2⟩
  · intro p hp h1
    by_cases e : p = r
    · rw [e, pk_us]
      exact ⟨k, hk, rfl, pk_us⟩
    · rw [pk_un e] at h1 ⊢
      obtain ⟨j, hj, h4, h5⟩ := h'.2 p hp h1
      refine ⟨j, hj, h4, ?_⟩
      by_cases e2 : j = k
      · rw [e2, kfp_k] at h5
        exact absurd h5.symm (kn_neg1 (by omega))
      · rw [pk_un e2]
        exact h5
def kNx (x : Nat) : Nat := if x = 4094 then 0 else x + 1
theorem kNx_lt {x : Nat} (h : x < 4095) : kNx x < 4095 := by
  unfold kNx
  split <;> omega
theorem kNx_mod {x : Nat} (h : x < 4095) : (x + 1) % 4095 = kNx x := by
  unfold kNx
  split <;> omega
theorem ks_behind {x : Nat} (h : x < 4096) : f_F_serialBehind (nI x) = some (nI ((x + 1) % 4095)) := by
  unfold f_F_serialBehind
  rw [show nI x + (1 : Int32) = nI (x + 1) from nI_1 x]
  exact congrArg some (pk_rem (d := 4095) (by omega) (by decide) (by decide))
theorem ks_tag {k x : Nat} (hk : k < 8) (hx : x < 4095) : (nI k <<< ((12 : Int32) &&& 31)) ||| nI x = nI (4096 * k + x) := by
  rw [show nI k <<< ((12 : Int32) &&& 31) = nI (k * 2 ^ 12) from kn_shlw k (k := 12) (by decide), kn_or, show k * 2 ^ 12 = 2 ^ 12 * k from Nat.mul_comm _ _, ← Nat.two_pow_add_eq_or_of_lt (by omega)]
theorem ks_putF {st pl lg wd : Nat → Int32} (h : kI st pl lg) {k r x : Nat} (hk : k < 8) (hr : r < 16) (hx : x < 4095) (v : Int64) {bar : Int32} (hp : f_F_freePlace st bar = some (nI r)) : f_F_put st pl wd (nI x) (nI k) v bar = some (upd (kfs st pl k) r 1, upd pl k (nI r), kpr wd r v (4096 * k + x), nI (kNx x)) := by
  unfold f_F_put
  rw [hp, Option.bind_some, if_neg (kn_neg1 (by omega)), ks_tag hk hx, kp_progF wd hr v (by omega), Option.bind_some, ks_behind (by omega), Option.bind_some, ks_forget h hk, Option.bind_some]
  show (f_F_hold (kfs st pl k) (kfp pl k) (nI k) (nI r)).bind _ = _
  rw [ks_hold _ _ hk hr, Option.bind_some, kfp_upd, kNx_mod hx]
/-- the reference's states after a page is put -/
def kus (us pl : Nat → Int32) (k r : Nat) : Nat → Int32 := if pl k = -1 then upd us r 1 else upd (upd us r 1) (pl k).toNatClampNeg 2
theorem ks_putR {rm : Nat → Int32} (hrm : kR rm) {st pl lg us se wd : Nat → Int32} (h : kI st pl lg) {k r x : Nat} (hk : k < 8) (hr : r < 16) (hx : x < 4095) (v : Int64) : f_R_put rm wd us lg se (kwh pl) (nI x) (nI r) (nI k) v = some (kpr wd r v (4096 * k + x), kus us pl k r, upd lg r (nI k), upd se r (nI x), kwh (upd pl k (nI r)), nI (kNx x)) := by
  have step : ∀ (n w : Nat) (wd : Nat → Int32), w < 4 → f_R_put_H (n + 1) rm wd us lg se (kwh pl) (nI x) (nI r) (nI k) v (nI w) = f_R_put_H n rm (kpg wd (5 * r + w) (kd v w)) us lg se (kwh pl) (nI x) (nI r) (nI k) v (nI (w + 1)) := by
    intro n w wd hw
    simp only [f_R_put_H]
    rw [if_neg (show ¬ (4 : Int32) ≤ nI w from nI_ge (b := 4) hw (by decide)), kd_R v hw, kp_prg wd hrm hr (by omega) (kd_lt v w), Option.bind_some, nI_1 w]
  have last : ∀ (n : Nat) (wd : Nat → Int32), f_R_put_H (n + 1) rm wd us lg se (kwh pl) (nI x) (nI r) (nI k) v (nI 4) = some (kpg wd (5 * r + 4) (4096 * k + x), kus us pl k r, upd lg r (nI k), upd se r (nI x), kwh (upd pl k (nI r)), nI (kNx x)) := by
    intro n wd
    have et : (4096 : Int32) * nI k + nI x = nI (4096 * k + x) := by
      rw [show (4096 : Int32) * nI k = nI (4096 * k) from pk_mul 4096 k, nI_add]
    have tail : ∀ z : Int32, f_R_put_J95 (f_R_put_H n) rm (kpg wd (5 * r + 4) (4096 * k + x)) (upd us r 1) (upd lg r (nI k)) (upd se r (nI x)) (kwh pl) (nI x) (nI r) (nI k) z = some (kpg wd (5 * r + 4) (4096 * k + x), kus us pl k r, upd lg r (nI k), upd se r (nI x), kwh (upd pl k (nI r)), z) := by
      intro z
      unfold f_R_put_J95 f_R_put_J121 kus
      have hin := nI_in (c := k) (N := 8) hk (by decide)
      simp only [if_neg hin]
      rw [nI_clamp (by omega), kwh_upd]
      rcases h.1 k hk with e | ⟨p, hp, e, -, -⟩
      · rw [if_pos (show kwh pl k ≤ 0 by unfold kwh; rw [e]; decide), if_pos e]
      · have e1 : kwh pl k = nI (p + 1) := by unfold kwh; rw [e, nI_1]
        rw [e1, if_neg (nI_nle (by omega) (by omega)), nI_pred, if_neg (nI_in hp (by decide)), if_neg (show ¬ pl k = -1 by rw [e]; exact kn_neg1 (by omega)), e]
    simp only [f_R_put_H]
    rw [if_pos (show (4 : Int32) ≤ nI 4 by decide), et]
    show (f_R_program rm wd (nI r) (nI 4) (nI (4096 * k + x))).bind _ = _
    rw [kp_prg wd hrm hr (by decide) (by omega), Option.bind_some, if_neg (nI_in hr (by decide)), nI_clamp (by omega)]
    unfold kNx
    by_cases hx4 : x = 4094
    · rw [if_pos (show nI x = (4094 : Int32) by rw [hx4]; rfl), if_pos hx4]
      exact tail 0
    · rw [if_neg (show ¬ nI x = (4094 : Int32) from fun e => hx4 ((nI_eq (b := 4094) (by omega) (by decide)).mp e)), if_neg hx4, show nI x + (1 : Int32) = nI (x + 1) from nI_1 x]
      exact tail _
  show f_R_put_H (99 + 1) rm wd us lg se (kwh pl) (nI x) (nI r) (nI k) v (nI 0) = _
  rw [step 99 0 _ (by decide), step 98 1 _ (by decide), step 97 2 _ (by decide), step 96 3 _ (by decide)]
  exact last 95 _
/-- the two agree wherever they did -/
theorem kus_at {st pl lg us : Nat → Int32} (h : kI st pl lg) {k r : Nat} (hk : k < 8) (h0 : st r = 0) {q : Nat} (e : us q = st q) : kus us pl k r q = upd (kfs st pl k) r 1 q := by
  unfold kus kfs
  rcases h.1 k hk with e1 | ⟨p, hp, e1, h1, -⟩
  · rw [if_pos e1, if_pos e1]
    by_cases hq : q = r
    · rw [hq, pk_us, pk_us]
    · rw [pk_un hq, pk_un hq, e]
  · have hne : ¬ pl k = -1 := by rw [e1]; exact kn_neg1 (by omega)
    have hpr : p ≠ r := fun e2 => by rw [e2, h0] at h1; exact absurd h1 (by decide)
    rw [if_neg hne, if_neg hne, e1, nI_clamp (by omega)]
    by_cases hq : q = p
    · rw [hq, pk_us, pk_un hpr, pk_us]
    · rw [pk_un hq]
      by_cases hq2 : q = r
      · rw [hq2, pk_us, pk_us]
      · rw [pk_un hq2, pk_un hq2, pk_un hq, e]
