/-! Mounting, page by page. -/
def kNn (s : Nat) : Option Nat → Option Nat
  | none => some s
  | some t => if kNw s t then some s else some t
theorem kNn_s (s t : Nat) : kNn s (some t) = if kNw s t then some s else some t := rfl
theorem kf_forget {st pl : Nat → Int32} {k : Nat} (hk : k < 8) (h : pl k = -1 ∨ ∃ p, p < 16 ∧ pl k = nI p) : f_F_forget st pl (nI k) = some (kfs st pl k, kfp pl k) := by
  unfold f_F_forget f_F_forget_J29 kfs kfp
  rw [if_neg (nI_in hk (by decide)), nI_clamp (by omega)]
  by_cases e : pl k = -1
  · rw [if_pos e, if_pos e, if_pos e]
  · rcases h with e' | ⟨p, hp, e'⟩
    · exact absurd e' e
    · rw [if_neg e, if_neg e, if_neg e, if_neg (by rw [e']; exact nI_in hp (by decide))]
/-- while mounting, p pages seen -/
def kJ (p : Nat) (st pl tk lg se : Nat → Int32) (nw : Option Nat) : Prop :=
  (∀ k, k < 8 → pl k = -1 ∨ ∃ q s, q < p ∧ pl k = nI q ∧ st q = 1 ∧ lg q = nI k ∧ s < 4096 ∧ tk k = nI s ∧ se q = nI s) ∧ (∀ q, q < p → st q = 1 → ∃ k, k < 8 ∧ lg q = nI k ∧ pl k = nI q) ∧ (∀ s, nw = some s → s < 4096)
theorem kNn_lt {s : Nat} (hs : s < 4096) {nw : Option Nat} (h : ∀ s, nw = some s → s < 4096) : ∀ t, kNn s nw = some t → t < 4096 := by
  intro t ht
  cases nw with
  | none =>
    have : s = t := Option.some.inj ht
    omega
  | some u =>
    rw [kNn_s] at ht
    split at ht
    · have : s = t := Option.some.inj ht
      omega
    · have : u = t := Option.some.inj ht
      have := h u rfl
      omega
theorem km_tF (rc : (Nat → Int32) → (Nat → Int32) → (Nat → Int32) → (Nat → Int32) → Int32 → Int32 → Int32 → Option (Int32 × (Nat → Int32) × (Nat → Int32) × (Nat → Int32) × Int32)) (st pl tk wd : Nat → Int32) (nx v2 : Int32) {s : Nat} (hs : s < 4096) {nw : Option Nat} (h : ∀ s, nw = some s → s < 4096) :
    (if kvo nw = (-1 : Int32) then (f_F_mount_J92 rc st pl tk wd nx v2 (nI s)) else ((f_F_isNewer (nI s) (kvo nw)).bind fun r86 => if r86 = 0 then (f_F_mount_J98 rc st pl tk wd nx v2 (kvo nw)) else (f_F_mount_J92 rc st pl tk wd nx v2 (nI s)))) = rc st pl tk wd nx (kvo (kNn s nw)) (v2 + 1) := by
  unfold f_F_mount_J92 f_F_mount_J98 f_F_mount_J99
  cases nw with
  | none =>
    rw [if_pos (show kvo none = (-1 : Int32) from rfl)]
    rfl
  | some t =>
    have ht := h t rfl
    rw [show kvo (some t) = nI t from rfl, if_neg (kn_neg1 (by omega)), ks_newF hs ht, Option.bind_some]
    rw [kNn_s]
    by_cases hn : kNw s t
    · rw [if_neg (by rw [kB_t hn]; decide), if_pos hn]
      rfl
    · rw [if_pos (kB_f hn), if_neg hn]
      rfl
theorem km_tR (rc : (Nat → Int32) → (Nat → Int32) → (Nat → Int32) → (Nat → Int32) → (Nat → Int32) → (Nat → Int32) → Int32 → Int32 → Int32 → Nat → Int32 → Int32 → Int32 → Option (Int32 × (Nat → Int32) × (Nat → Int32) × (Nat → Int32) × (Nat → Int32) × Int32 × Int32 × Int32)) (rm fl us lg se wh : Nat → Int32) (th nx wr v2 : Int32) {p s : Nat} (hp : p < 16) (hs : s < 4096) (he : se p = nI s) {nw : Option Nat} (h : ∀ s, nw = some s → s < 4096) :
    f_R_mount_J190 rc rm fl us lg se wh th nx wr (kvo nw) v2 (nI p) = rc rm fl us lg se wh th nx wr 1 (kvo (kNn s nw)) v2 (nI (p + 1)) := by
  unfold f_R_mount_J190 f_R_mount_J207 f_R_mount_J214
  have hin := nI_in (c := p) (N := 16) hp (by decide)
  rw [if_neg hin, if_neg hin, nI_clamp (by omega), he, nI_1 p]
  cases nw with
  | none =>
    rw [if_pos (show kvo none < 0 by decide)]
    rfl
  | some t =>
    have ht := h t rfl
    rw [show kvo (some t) = nI t from rfl, if_neg (nI_pos (by omega)), ks_newR hs ht, Option.bind_some]
    rw [kNn_s]
    by_cases hn : kNw s t
    · rw [if_neg (by rw [kB_t hn]; decide), if_pos hn]
      rfl
    · rw [if_pos (kB_f hn), if_neg hn]
      rfl
theorem km_sh {d : Nat} (h : d < 65536) : ((nI d).toUInt32 >>> ((12 : Int32).toUInt32 &&& Int32.toUInt32 31)).toInt32 = nI (d / 4096) := kn_ushr (w := d) (by omega) (k := 12) (by decide)
theorem km_and {d : Nat} (h : d < 65536) : nI d &&& (4095 : Int32) = nI (d % 4096) := pk_andN (by omega) 12 (by decide)
/-- the tag of a page, in both -/
theorem km_tag {rm wd : Nat → Int32} (hr : kR rm) (hw : kWd wd) (wr : Int32) {p : Nat} (hp : p < 16) : ∃ wr', (f_M_tagAt wd (nI p) = some (-1) ∧ f_R_dataOf rm wr (wd (5 * p + 4)) = some (-1, wr')) ∨ ∃ d, d < 65536 ∧ f_M_tagAt wd (nI p) = some (nI d) ∧ f_R_dataOf rm wr (wd (5 * p + 4)) = some (nI d, wr') := by
  have e0 : f_M_wordAt wd (nI p) (4 : Int32) = some (wd (5 * p + 4)) := kp_word wd hp (w := 4) (by decide)
  have e1 := kp_mend hw (j := 5 * p + 4) (by omega)
  have e2 := kp_data hw hr wr (j := 5 * p + 4) (by omega)
  cases hG : kG wd (5 * p + 4) with
  | none =>
    rw [hG] at e1 e2
    refine ⟨0, Or.inl ⟨?_, e2⟩⟩
    unfold f_M_tagAt
    rw [e0, Option.bind_some, e1]
    rfl
  | some c =>
    have hc := kp_lt hw (j := 5 * p + 4) (by omega) hG
    rw [hG] at e1 e2
    refine ⟨_, Or.inr ⟨c / 2 ^ 15, by omega, ?_, e2⟩⟩
    unfold f_M_tagAt
    rw [e0, Option.bind_some, e1, Option.bind_some, show kvm (some c) = nI c from rfl, if_neg (kn_neg1 hc), kp_dataC hc]
    rfl
theorem kJ_up {p : Nat} {st pl tk lg se : Nat → Int32} {nw : Option Nat} (h : kJ p st pl tk lg se nw) {z : Int32} (hz : ¬ z = 1) {lg' se' : Nat → Int32} (hl : ∀ q, q < p → lg' q = lg q) (hs : ∀ q, q < p → se' q = se q) {nw' : Option Nat} (hn : ∀ s, nw' = some s → s < 4096) : kJ (p + 1) (upd st p z) pl tk lg' se' nw' := by
  obtain ⟨h1, h2, h3⟩ := h
  refine ⟨fun k hk => ?_, fun q hq e => ?_, hn⟩
  · rcases h1 k hk with e | ⟨q, s, hq, e1, e2, e3, e4, e5, e6⟩
    · exact Or.inl e
    · exact Or.inr ⟨q, s, by omega, e1, by rw [pk_un (by omega)]; exact e2, by rw [hl q hq]; exact e3, e4, e5, by rw [hs q hq]; exact e6⟩
  · by_cases e1 : q = p
    · rw [e1, pk_us] at e
      exact absurd e hz
    · rw [pk_un e1] at e
      obtain ⟨k, hk, e2, e3⟩ := h2 q (by omega) e
      exact ⟨k, hk, by rw [hl q (by omega)]; exact e2, e3⟩
/-- the page p is taken for k -/
theorem kJ_take {p : Nat} (hp : p < 16) {st pl tk lg se : Nat → Int32} {nw : Option Nat} (h : kJ p st pl tk lg se nw) {k s : Nat} (hk : k < 8) (hs : s < 4096) {nw' : Option Nat} (hn : ∀ s, nw' = some s → s < 4096) : kJ (p + 1) (upd (kfs st pl k) p 1) (upd pl k (nI p)) (upd tk k (nI s)) (upd lg p (nI k)) (upd se p (nI s)) nw' := by
  obtain ⟨h1, h2, h3⟩ := h
  have hf : ∀ q, q < p → (kfs st pl k q = st q ∨ (kfs st pl k q = 2 ∧ pl k = nI q)) := fun q hq => by
    unfold kfs
    rcases h1 k hk with e | ⟨q', s', hq', e1, -⟩
    · rw [if_pos e]
      exact Or.inl rfl
    · rw [if_neg (by rw [e1]; exact kn_neg1 (by omega)), e1, nI_clamp (by omega)]
      by_cases e : q = q'
      · rw [e, pk_us]
        exact Or.inr ⟨rfl, rfl⟩
      · rw [pk_un e]
        exact Or.inl rfl
  have hf2 : ∀ q, q < p → pl k = nI q → kfs st pl k q = 2 := fun q hq e => by
    unfold kfs
    rw [if_neg (by rw [e]; exact kn_neg1 (by omega)), e, nI_clamp (by omega), pk_us]
  refine ⟨fun j hj => ?_, fun q hq e => ?_, hn⟩
  · by_cases ej : j = k
    · rw [ej]
      exact Or.inr ⟨p, s, by omega, pk_us, pk_us, pk_us, hs, pk_us, pk_us⟩
    · rcases h1 j hj with e | ⟨q, s', hq, e1, e2, e3, e4, e5, e6⟩
      · exact Or.inl (by rw [pk_un ej]; exact e)
      · refine Or.inr ⟨q, s', by omega, by rw [pk_un ej]; exact e1, ?_, by rw [pk_un (by omega)]; exact e3, e4, by rw [pk_un ej]; exact e5, by rw [pk_un (by omega)]; exact e6⟩
        rw [pk_un (by omega)]
        rcases hf q hq with e7 | ⟨-, e7⟩
        · rw [e7]
          exact e2
        · exfalso
          rcases h1 k hk with e8 | ⟨q2, s2, hq2, e8, -, e9, -⟩
          · rw [e8] at e7
            exact kn_neg1 (by omega) e7.symm
          · have : q2 = q := (nI_eq (by omega) (by omega)).mp (e8.symm.trans e7)
            rw [this, e3] at e9
            exact ej ((nI_eq (by omega) (by omega)).mp e9)
  · by_cases e1 : q = p
    · rw [e1]
      exact ⟨k, hk, pk_us, pk_us⟩
    · rw [pk_un e1] at e
      rcases hf q (by omega) with e2 | ⟨e2, -⟩
      · rw [e2] at e
        obtain ⟨j, hj, e3, e4⟩ := h2 q (by omega) e
        refine ⟨j, hj, by rw [pk_un e1]; exact e3, ?_⟩
        by_cases ej : j = k
        · rw [ej] at e4
          rw [hf2 q (by omega) e4, e] at e2
          exact absurd e2 (by decide)
        · rw [pk_un ej]
          exact e4
      · rw [e2] at e
        exact absurd e (by decide)
theorem km_take {st pl tk : Nat → Int32} {p k s : Nat} (hp : p < 16) (hk : k < 8) (h : pl k = -1 ∨ ∃ p, p < 16 ∧ pl k = nI p) : f_F_take_J31 st pl tk (nI p) (nI k) (nI s) = some (upd (kfs st pl k) p 1, upd pl k (nI p), upd tk k (nI s)) := by
  unfold f_F_take_J31
  rw [kf_forget hk h, Option.bind_some]
  show (f_F_hold (kfs st pl k) (kfp pl k) (nI k) (nI p)).bind _ = _
  rw [ks_hold _ _ hk hp, Option.bind_some]
  show (if nI k < 0 ∨ 8 ≤ (nI k).toNatClampNeg then none else some (upd (kfs st pl k) p 1, upd (kfp pl k) k (nI p), upd tk (nI k).toNatClampNeg (nI s))) = _
  rw [if_neg (nI_in hk (by decide)), nI_clamp (by omega), kfp_upd]
theorem km_step {rm wd : Nat → Int32} (hr : kR rm) (hw : kWd wd) {p : Nat} (hp : p < 16) {st pl tk lg se : Nat → Int32} {nw : Option Nat} (J : kJ p st pl tk lg se nw) (nx th mnx wr : Int32) (n m : Nat) :
    ∃ st' pl' tk' lg' se' nw' wr', f_F_mount_H (n + 1) st pl tk wd nx (kvo nw) (nI p) = f_F_mount_H n st' pl' tk' wd nx (kvo nw') (nI (p + 1)) ∧ f_R_mount_H (m + 1) rm wd st lg se (kwh pl) th mnx wr 1 (kvo nw) (nI (kcH pl 8)) (nI p) = f_R_mount_H m rm wd st' lg' se' (kwh pl') th mnx wr' 1 (kvo nw') (nI (kcH pl' 8)) (nI (p + 1)) ∧ kJ (p + 1) st' pl' tk' lg' se' nw' := by
  have hin := nI_in (c := p) (N := 16) hp (by decide)
  have hcl : (nI p).toNatClampNeg = p := nI_clamp (by omega)
  have h16 : ¬ (16 : Int32) ≤ nI p := nI_ge (b := 16) hp (by decide)
  have eF : f_F_mount_H (n + 1) st pl tk wd nx (kvo nw) (nI p) = ((f_M_tagAt wd (nI p)).bind fun r23 => if r23 = (65535 : Int32) then f_F_mount_H n (upd st p 0) pl tk wd nx (kvo nw) (nI (p + 1)) else ((f_F_isSpoilt r23).bind fun r44 => if r44 = 0 then ((f_F_take st pl tk (nI p) ((r23.toUInt32 >>> ((12 : Int32).toUInt32 &&& Int32.toUInt32 31)).toInt32) (r23 &&& (4095 : Int32))).bind fun (st75, pl75, tk75) => if kvo nw = (-1 : Int32) then (f_F_mount_J92 (f_F_mount_H n) st75 pl75 tk75 wd nx (nI p) (r23 &&& (4095 : Int32))) else ((f_F_isNewer (r23 &&& (4095 : Int32)) (kvo nw)).bind fun r86 => if r86 = 0 then (f_F_mount_J98 (f_F_mount_H n) st75 pl75 tk75 wd nx (nI p) (kvo nw)) else (f_F_mount_J92 (f_F_mount_H n) st75 pl75 tk75 wd nx (nI p) (r23 &&& (4095 : Int32))))) else f_F_mount_H n (upd st p 2) pl tk wd nx (kvo nw) (nI (p + 1)))) := by
    rw [f_F_mount_H, if_neg h16]
    have hin' : ¬ (nI p < 0 ∨ 16 ≤ p) := fun h => h.elim (nI_pos (by omega)) (by omega)
    simp only [if_neg hin', hcl, f_F_mount_J99, nI_1]
  have hidx : (5 : Int32) * nI p + (4 : Int32) = nI (5 * p + 4) := kp_idx' p 4
  have eR : ∀ z wr', f_R_dataOf rm wr (wd (5 * p + 4)) = some (z, wr') → f_R_mount_H (m + 1) rm wd st lg se (kwh pl) th mnx wr 1 (kvo nw) (nI (kcH pl 8)) (nI p) = f_R_mount_J71 (f_R_mount_H m) rm wd st lg se (kwh pl) th mnx wr' (kvo nw) (nI (kcH pl 8)) (nI p) z (if z = (65535 : Int32) then 0 else 2) (nI p) := by
    intro z wr' e
    rw [f_R_mount_H, if_neg h16, hidx, if_neg (nI_in (by omega) (by decide)), nI_clamp (by omega), e, Option.bind_some]
    dsimp only
    by_cases hz : z = (65535 : Int32)
    · rw [if_pos hz, if_pos hz]
    · rw [if_neg hz, if_neg hz]
    · exact fun h => by cases h
  obtain ⟨wr', h | ⟨d, hd, e1, e2⟩⟩ := km_tag hr hw wr hp
  · obtain ⟨e1, e2⟩ := h
    refine ⟨upd st p 2, pl, tk, lg, se, nw, wr', ?_, ?_, kJ_up J (by decide) (fun _ _ => rfl) (fun _ _ => rfl) J.2.2⟩
    · rw [eF, e1]
      rfl
    · rw [eR _ _ e2]
      unfold f_R_mount_J71 f_R_mount_J214
      rw [if_neg hin, hcl, if_pos (show (-1 : Int32) < 0 by decide), if_neg (show ¬ (-1 : Int32) = 65535 by decide), nI_1 p]
  · by_cases h1 : d = 65535
    · refine ⟨upd st p 0, pl, tk, lg, se, nw, wr', ?_, ?_, kJ_up J (by decide) (fun _ _ => rfl) (fun _ _ => rfl) J.2.2⟩
      · rw [eF, e1, Option.bind_some, if_pos (show nI d = (65535 : Int32) from congrArg nI h1)]
      · rw [eR _ _ e2]
        unfold f_R_mount_J71 f_R_mount_J214
        rw [if_neg hin, hcl, if_neg (nI_pos (by omega)), if_pos (show (32768 : Int32) ≤ nI d from nI_le (a := 32768) (by omega) (by omega)), if_pos (show nI d = (65535 : Int32) from congrArg nI h1), nI_1 p]
    · have hne : ¬ nI d = (65535 : Int32) := fun e => h1 ((nI_eq (b := 65535) (by omega) (by decide)).mp e)
      by_cases h2 : 32768 ≤ d
      · refine ⟨upd st p 2, pl, tk, lg, se, nw, wr', ?_, ?_, kJ_up J (by decide) (fun _ _ => rfl) (fun _ _ => rfl) J.2.2⟩
        · rw [eF, e1, Option.bind_some, if_neg hne]
          unfold f_F_isSpoilt f_F_isSpoilt_J14 f_F_isSpoilt_J19
          rw [if_neg (kn_neg1 (by omega)), km_sh hd, if_neg (show ¬ nI (d / 4096) < (8 : Int32) from nI_nlt (b := 8) (by omega) (by omega)), if_neg (by decide), Option.bind_some, if_neg (by decide)]
        · rw [eR _ _ e2]
          unfold f_R_mount_J71 f_R_mount_J214
          rw [if_neg hin, hcl, if_neg (nI_pos (by omega)), if_pos (show (32768 : Int32) ≤ nI d from nI_le (a := 32768) (by omega) (by omega)), if_neg hne, nI_1 p]
      · have hk : d / 4096 < 8 := by omega
        have hs : d % 4096 < 4096 := Nat.mod_lt _ (by decide)
        generalize hke : d / 4096 = k at hk
        generalize hse : d % 4096 = s at hs
        have hsp : f_F_isSpoilt (nI d) = some 0 := by
          unfold f_F_isSpoilt f_F_isSpoilt_J14 f_F_isSpoilt_J19
          rw [if_neg (kn_neg1 (by omega)), km_sh hd, hke, if_pos (show nI k < (8 : Int32) from nI_lt (b := 8) hk (by decide)), if_neg (by decide)]
        have hF : f_F_mount_H (n + 1) st pl tk wd nx (kvo nw) (nI p) = (f_F_take st pl tk (nI p) (nI k) (nI s)).bind fun (st75, pl75, tk75) => f_F_mount_H n st75 pl75 tk75 wd nx (kvo (kNn s nw)) (nI (p + 1)) := by
          rw [eF, e1, Option.bind_some, if_neg hne, hsp, Option.bind_some, if_pos rfl, km_sh hd, km_and hd, hke, hse]
          congr 1
          funext ⟨st75, pl75, tk75⟩
          rw [← nI_1 p]
          exact km_tF (f_F_mount_H n) st75 pl75 tk75 wd nx (nI p) hs J.2.2
        have hdiv : nI d / (4096 : Int32) = nI k := by rw [← hke]; exact pk_div (d := 4096) (by omega) (by decide) (by decide)
        have hmod : nI d - nI k * (4096 : Int32) = nI s := by
          have := pk_rem (a := d) (d := 4096) (by omega) (by decide) (by decide)
          rw [← hdiv, ← hse]
          exact this
        have hkin := nI_in (c := k) (N := 8) hk (by decide)
        have hkcl : (nI k).toNatClampNeg = k := nI_clamp (by omega)
        have hpl : pl k = -1 ∨ ∃ q, q < 16 ∧ pl k = nI q := by
          rcases J.1 k hk with e | ⟨q, s', hq, e, -⟩
          · exact Or.inl e
          · exact Or.inr ⟨q, by omega, e⟩
        have hJ := kJ_take hp J hk hs (nw' := kNn s nw) (kNn_lt hs J.2.2)
        have hup : upd se p (nI s) p = nI s := pk_us
        have hR1 : ∀ (us : Nat → Int32) (v : Int32), f_R_mount_J173 (f_R_mount_H m) rm wd us (upd lg p (nI k)) (upd se p (nI s)) (kwh pl) th mnx wr' (kvo nw) v (nI p) (nI k) = f_R_mount_H m rm wd (upd us p 1) (upd lg p (nI k)) (upd se p (nI s)) (kwh (upd pl k (nI p))) th mnx wr' 1 (kvo (kNn s nw)) v (nI (p + 1)) := by
          intro us v
          unfold f_R_mount_J173
          rw [if_neg hin, if_neg hkin, hcl, hkcl, kwh_upd]
          exact km_tR (f_R_mount_H m) rm wd _ _ _ _ th mnx wr' v hp hs hup J.2.2
        have hR0 : f_R_mount_H (m + 1) rm wd st lg se (kwh pl) th mnx wr 1 (kvo nw) (nI (kcH pl 8)) (nI p) = if kwh pl k - 1 < 0 then f_R_mount_J147 (f_R_mount_H m) rm wd (upd st p 2) (upd lg p (nI k)) (upd se p (nI s)) (kwh pl) th mnx wr' (kvo nw) (nI (kcH pl 8)) (nI p) (nI k) (kwh pl k - 1) else (if kwh pl k - 1 < 0 ∨ 16 ≤ (kwh pl k - 1).toNatClampNeg then none else (f_R_newer (nI s) ((upd se p (nI s)) (kwh pl k - 1).toNatClampNeg)).bind fun r141 => if r141 = 0 then f_R_mount_J190 (f_R_mount_H m) rm wd (upd st p 2) (upd lg p (nI k)) (upd se p (nI s)) (kwh pl) th mnx wr' (kvo nw) (nI (kcH pl 8)) (nI p) else f_R_mount_J147 (f_R_mount_H m) rm wd (upd st p 2) (upd lg p (nI k)) (upd se p (nI s)) (kwh pl) th mnx wr' (kvo nw) (nI (kcH pl 8)) (nI p) (nI k) (kwh pl k - 1)) := by
          rw [eR _ _ e2]
          unfold f_R_mount_J71
          rw [if_neg hin, if_neg (nI_pos (by omega)), if_neg (show ¬ (32768 : Int32) ≤ nI d from nI_ge (b := 32768) (by omega) (by decide)), if_neg hin, hdiv, if_neg hkin, if_neg hne, hcl, hkcl, hmod, hup]
        rcases hpl with e | ⟨q, hq, e⟩
        · have ew : kwh pl k - 1 = -1 := by unfold kwh; rw [e]; decide
          refine ⟨_, _, _, _, _, _, wr', ?_, ?_, hJ⟩
          · rw [hF]
            unfold f_F_take
            rw [if_neg hkin, hkcl, if_pos e, km_take hp hk (Or.inl e)]
            rfl
          · rw [hR0, ew, if_pos (by decide)]
            unfold f_R_mount_J147 f_R_mount_J159
            rw [if_neg (by decide), if_pos (by decide), hR1, kcH_upd pl k (kn_neg1 (x := p) (by omega)) 8, if_pos ⟨hk, e⟩, ku_u, nI_1 (kcH pl 8)]
            unfold kfs
            rw [if_pos e]
        · have ew : kwh pl k - 1 = nI q := by unfold kwh; rw [e, nI_1, nI_pred]
          have hpne : ¬ pl k = -1 := by rw [e]; exact kn_neg1 (by omega)
          obtain ⟨t, hqp, ht, etk, ese⟩ : ∃ t, q < p ∧ t < 4096 ∧ tk k = nI t ∧ se q = nI t := by
            rcases J.1 k hk with e3 | ⟨q', s', hq', e3, -, -, e4, e5, e6⟩
            · exact absurd e3 hpne
            · have : q' = q := (nI_eq (by omega) (by omega)).mp (e3.symm.trans e)
              rw [this] at hq' e6
              exact ⟨s', hq', e4, e5, e6⟩
          have hT : f_F_take st pl tk (nI p) (nI k) (nI s) = if kB (kNw s t) = 0 then some (upd st p 2, pl, tk) else some (upd (kfs st pl k) p 1, upd pl k (nI p), upd tk k (nI s)) := by
            unfold f_F_take
            rw [if_neg hkin, hkcl, if_neg hpne, etk, ks_newF hs ht, Option.bind_some, if_neg hin, hcl, km_take hp hk (Or.inr ⟨q, hq, e⟩)]
          have hqin := nI_in (c := q) (N := 16) hq (by decide)
          rw [hF, hT, hR0, ew, if_neg (nI_pos (by omega)), if_neg hqin, nI_clamp (show q < 2 ^ 31 by omega), pk_un (show q ≠ p by omega), ese, ks_newR hs ht, Option.bind_some]
          by_cases hn : kNw s t
          · have hn0 : ¬ kB (kNw s t) = 0 := by rw [kB_t hn]; decide
            refine ⟨_, _, _, _, _, _, wr', ?_, ?_, hJ⟩
            · rw [if_neg hn0]
              rfl
            · rw [if_neg hn0]
              unfold f_R_mount_J147 f_R_mount_J159
              rw [if_pos (nI_pos' (by omega)), if_neg (nI_pos (by omega)), if_neg hqin, nI_clamp (by omega), hR1, kcH_upd pl k (kn_neg1 (x := p) (by omega)) 8, if_neg (fun h => hpne h.2)]
              have hfe : upd (upd (upd st p 2) q 2) p 1 = upd (kfs st pl k) p 1 := by
                unfold kfs
                rw [if_neg hpne, e, nI_clamp (by omega)]
                funext z
                by_cases z1 : z = p
                · rw [z1, pk_us, pk_us]
                · rw [pk_un z1, pk_un z1]
                  by_cases z2 : z = q
                  · rw [z2, pk_us, pk_us]
                  · rw [pk_un z2, pk_un z2, pk_un z1]
              rw [hfe]
              rfl
          · have hn0 : kB (kNw s t) = 0 := kB_f hn
            refine ⟨upd st p 2, pl, tk, upd lg p (nI k), upd se p (nI s), kNn s nw, wr', ?_, ?_, kJ_up J (by decide) (fun q hq => pk_un (by omega)) (fun q hq => pk_un (by omega)) (kNn_lt hs J.2.2)⟩
            · rw [if_pos hn0]
              rfl
            · rw [if_pos hn0]
              exact km_tR (f_R_mount_H m) rm wd _ _ _ _ th mnx wr' _ hp hs hup J.2.2
/-- the whole of mounting -/
theorem km_run {rm wd : Nat → Int32} (hr : kR rm) (hw : kWd wd) (nx th mnx : Int32) (j : Nat) : ∀ (p : Nat) (st pl tk lg se : Nat → Int32) (nw : Option Nat) (wr : Int32) (n m : Nat), p + j = 16 → kJ p st pl tk lg se nw →
    ∃ st' pl' tk' lg' se' nw' wr', f_F_mount_H (n + j) st pl tk wd nx (kvo nw) (nI p) = f_F_mount_H n st' pl' tk' wd nx (kvo nw') (nI 16) ∧ f_R_mount_H (m + j) rm wd st lg se (kwh pl) th mnx wr 1 (kvo nw) (nI (kcH pl 8)) (nI p) = f_R_mount_H m rm wd st' lg' se' (kwh pl') th mnx wr' 1 (kvo nw') (nI (kcH pl' 8)) (nI 16) ∧ kJ 16 st' pl' tk' lg' se' nw' := by
  induction j with
  | zero =>
    intro p st pl tk lg se nw wr n m hp J
    have : p = 16 := by omega
    subst this
    exact ⟨st, pl, tk, lg, se, nw, wr, rfl, rfl, J⟩
  | succ j ih =>
    intro p st pl tk lg se nw wr n m hp J
    obtain ⟨st1, pl1, tk1, lg1, se1, nw1, wr1, e1, e2, J1⟩ := km_step hr hw (by omega) J nx th mnx wr (n + j) (m + j)
    obtain ⟨st2, pl2, tk2, lg2, se2, nw2, wr2, e3, e4, J2⟩ := ih (p + 1) st1 pl1 tk1 lg1 se1 nw1 wr1 n m (by omega) J1
    exact ⟨st2, pl2, tk2, lg2, se2, nw2, wr2, e1.trans e3, e2.trans e4, J2⟩
theorem kcH_fill (pl : Nat → Int32) : kcH (kf_fill 8 pl (-1)) 8 = 0 := by
  have : ∀ m, m ≤ 8 → kcH (kf_fill 8 pl (-1)) m = 0 := by
    intro m
    induction m with
    | zero => intro _; rfl
    | succ m ih =>
      intro hm
      simp only [kcH, ih (by omega)]
      rw [if_pos (show kf_fill 8 pl (-1) m = -1 from if_pos (by omega))]
  exact this 8 (Nat.le_refl _)
theorem km_fillR {rm fl us lg se : Nat → Int32} {th nx wr : Int32} (pl : Nat → Int32) (j : Nat) : ∀ k n, k + j = 8 → f_R_mount_H (n + j + 1) rm fl us lg se (kwh (kf_fill k pl (-1))) th nx wr 0 (nI k) 0 0 = f_R_mount_H n rm fl us lg se (kwh (kf_fill 8 pl (-1))) th nx wr 1 (-1) 0 0 := by
  induction j with
  | zero =>
    intro k n hk
    have : k = 8 := by omega
    subst this
    simp only [f_R_mount_H]
    rw [if_pos (show (8 : Int32) ≤ nI 8 by decide)]
  | succ j ih =>
    intro k n hk
    rw [show n + (j + 1) + 1 = (n + j + 1) + 1 by omega, f_R_mount_H, if_neg (show ¬ (8 : Int32) ≤ nI k from nI_ge (b := 8) (by omega) (by decide)), if_neg (nI_in (by omega) (by decide)), nI_clamp (by omega), kwh_upd0, nI_1 k, show upd (kf_fill k pl (-1)) k (-1) = kf_fill (k + 1) pl (-1) by
      funext q
      by_cases e : q = k
      · rw [e, pk_us]
        exact (if_pos (by omega)).symm
      · rw [pk_un e]
        unfold kf_fill
        by_cases h : q < k
        · rw [if_pos h, if_pos (by omega)]
        · rw [if_neg h, if_neg (by omega)]]
    exact ih (k + 1) n (by omega)
theorem ko_mount {rm wd : Nat → Int32} (hr : kR rm) (hw : kWd wd) (st pl tk lg se : Nat → Int32) (nx th mnx wr : Int32) :
    ∃ r st' pl' tk' lg' se' x' wr' th', f_F_mount st pl tk wd nx = some (r, st', pl', tk', nI x') ∧ f_R_mount rm wd st lg se (kwh pl) th mnx wr = some (r, st', lg', se', kwh pl', th', nI x', wr') ∧ kI st' pl' lg' ∧ x' < 4095 := by
  have J0 : kJ 0 st (kf_fill 8 pl (-1)) tk lg se none := ⟨fun k hk => Or.inl (if_pos hk), fun q hq => by omega, fun s h => by cases h⟩
  obtain ⟨st', pl', tk', lg', se', nw', wr', e1, e2, J⟩ := km_run hr hw nx 0 mnx 16 0 st (kf_fill 8 pl (-1)) tk lg se none wr 84 75 (by decide) J0
  have hI : kI st' pl' lg' := by
    refine ⟨fun k hk => ?_, J.2.1⟩
    rcases J.1 k hk with e | ⟨q, s, hq, h1, h2, h3, -⟩
    · exact Or.inl e
    · exact Or.inr ⟨q, hq, h1, h2, h3⟩
  have eF : f_F_mount st pl tk wd nx = f_F_mount_H 84 st' pl' tk' wd nx (kvo nw') (nI 16) := e1
  have eR : f_R_mount rm wd st lg se (kwh pl) th mnx wr = f_R_mount_H 75 rm wd st' lg' se' (kwh pl') 0 mnx wr' 1 (kvo nw') (nI (kcH pl' 8)) (nI 16) := by
    have h := km_fillR (rm := rm) (fl := wd) (us := st) (lg := lg) (se := se) (th := 0) (nx := mnx) (wr := wr) pl 8 0 91 (by decide)
    rw [show kf_fill 0 pl (-1) = pl by funext q; exact if_neg (by omega)] at h
    rw [kcH_fill] at e2
    exact h.trans e2
  have tF : ∀ n, f_F_mount_H (n + 1) st' pl' tk' wd nx (kvo nw') (nI 16) = if kvo nw' = (-1 : Int32) then some (nI (kcH pl' 8), st', pl', tk', 0) else ((f_F_serialBehind (kvo nw')).bind fun r116 => some (nI (kcH pl' 8), st', pl', tk', r116)) := by
    intro n
    simp only [f_F_mount_H, f_F_mount_J119, ks_held, Option.bind_some]
    rw [if_pos (show (16 : Int32) ≤ nI 16 by decide)]
  have tR : ∀ n, f_R_mount_H (n + 1) rm wd st' lg' se' (kwh pl') 0 mnx wr' 1 (kvo nw') (nI (kcH pl' 8)) (nI 16) = if 0 ≤ kvo nw' then some (nI (kcH pl' 8), st', lg', se', kwh pl', 0, ((kvo nw' + 1) - (kvo nw' + 1) / (4095 : Int32) * (4095 : Int32)), wr') else some (nI (kcH pl' 8), st', lg', se', kwh pl', 0, 0, wr') := by
    intro n
    simp only [f_R_mount_H, f_R_mount_J236]
    rw [if_pos (show (16 : Int32) ≤ nI 16 by decide)]
  rw [eF, eR]
  cases hn : nw' with
  | none =>
    rw [hn] at tF tR
    refine ⟨nI (kcH pl' 8), st', pl', tk', lg', se', 0, wr', 0, (tF 83).trans (if_pos rfl), (tR 74).trans (if_neg (by decide)), hI, by decide⟩
  | some s =>
    have hs := J.2.2 s hn
    rw [hn] at tF tR
    refine ⟨nI (kcH pl' 8), st', pl', tk', lg', se', (s + 1) % 4095, wr', 0, (tF 83).trans ?_, (tR 74).trans ?_, hI, Nat.mod_lt _ (by decide)⟩
    · rw [show kvo (some s) = nI s from rfl, if_neg (kn_neg1 (by omega)), ks_behind hs]
      rfl
    · rw [show kvo (some s) = nI s from rfl, if_pos (nI_pos' (by omega)), nI_1 s, show nI (s + 1) - nI (s + 1) / (4095 : Int32) * (4095 : Int32) = nI ((s + 1) % 4095) from pk_rem (d := 4095) (by omega) (by decide) (by decide)]
