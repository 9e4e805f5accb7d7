/-! Arrays.fill(int[], int) -/
theorem kf_fill_0 (f : Nat → Int32) (v : Int32) : kf_fill 0 f v = f := by
  funext j
  simp [kf_fill]
theorem kf_fill_s (f : Nat → Int32) (v : Int32) (i : Nat) : upd (kf_fill i f v) i v = kf_fill (i + 1) f v := by
  funext j
  unfold upd kf_fill
  by_cases h : j = i
  · rw [if_pos h, if_pos (by omega)]
  · rw [if_neg h]
    by_cases h2 : j < i
    · rw [if_pos h2, if_pos (by omega)]
    · rw [if_neg h2, if_neg (by omega)]
abbrev rm_U_fill : Room := { frames := 0, cells := 0, slots := 0, locals := 0 }
set_option maxHeartbeats 4000000 in
set_option maxRecDepth 100000 in
theorem c_U_fill (l : Launch) (dC : Nat → ClassId) (dI : Nat → Nat → Nat) (cA : ClassId) (q0 nn sz : Nat) (fa : Nat → Int32) (a2 : Int32) (hnn : nn < 2 ^ 31) : Met l y_U_fill ws_U_fill rm_U_fill (tx_PW [.ref q0, .int a2] (dC, dI) [(cA, .int)] [(q0, .inl (cA, nn, .inl fa))] sz) (va_Qv (S := Unit) (fun _ => True) (fun _ t => va_P (dC, dI) vwCl [(q0, .inl (cA, nn, .inl (kf_fill nn fa a2)))] t.heap ∧ va_D (va_A [(q0, .inl (cA, nn, .inl fa))] sz) [(q0, .inl (cA, nn, .inl (kf_fill nn fa a2)))]) (va_A [(q0, .inl (cA, nn, .inl fa))] sz)) 0 0 (va_A [(q0, .inl (cA, nn, .inl fa))] sz) := by
  refine va_MetF (cc := b_U_fill) (maxL := 4) (ret := none) (by decide +kernel) rfl ?_
  intro p e s m args below meth c s₁ B hml hv
  obtain ⟨hargs, hsz, hP, hK, hD0, hNw⟩ := hv
  have hx := B.exec
  have hb := B.bytes
  have hr := B.returns
  have hlocks := B.notSynchronized
  subst hsz
  have hD := hD0.self (sz := s.heap.size)
  generalize hAe : va_A [(q0, .inl (cA, nn, .inl fa))] s.heap.size = A at hD ⊢
  have hA : ∀ q : Nat, s.heap.size ≤ q → A q := fun q h => by rw [← hAe]; exact Or.inr h
  have hS : va_S A s.heap s.heap [] := va_S.rf
  have hl := lv_entry ([.ref q0, .int a2]) (n := 4) (Nat.le_of_ble_eq_true rfl)
  have hen : entryFrame m args 4 = _ := (congrArg (fun z => entryFrame m z 4) hargs).trans (lg_entry_eq m ([.ref q0, .int a2]) 4)
  refine W.eq hen ?_
  clear hen
  generalize (lg_sl ([.ref q0, .int a2]) ++ List.replicate (4 - (lg_sl ([.ref q0, .int a2])).length) Slot.unset).toArray = ls at hl ⊢
  have hl : lv_has ls 4 [(0, .ref q0), (1, .int a2)] := hl
  have LH : ∀ (n i : Nat), i + n = nn → ∀ (H : Heap) (locs : List Loc) (ls : Array Slot), va_P (dC, dI) vwCl [(q0, .inl (cA, nn, .inl (kf_fill i fa a2)))] H → va_D A [(q0, .inl (cA, nn, .inl (kf_fill i fa a2)))] → va_S A s.heap H locs → lv_has ls 4 [(0, .ref q0), (1, .int a2), (2, .int (nI i)), (3, .int (nI nn))] → W p l e (headSpec ws_U_fill rm_U_fill).room s m args below meth c H locs 0 0 (MQ below (va_Qv (S := Unit) (fun _ => True) (fun _ t => va_P (dC, dI) vwCl [(q0, .inl (cA, nn, .inl (kf_fill nn fa a2)))] t.heap ∧ va_D A [(q0, .inl (cA, nn, .inl (kf_fill nn fa a2)))]) A) args s 0 0 A) (F0 m 5 ls []) := by
    intro n
    induction n with
    | zero =>
      intro i hi H locs ls hP hD hS hl
      have hi : i = nn := hi
      subst hi
      refine lv_iload_n hx hb d_U_fill_5 rfl (lv_at hl 2 rfl) ?_
      refine lv_iload_n hx hb d_U_fill_6 rfl (lv_at hl 3 rfl) ?_
      refine lv_icmp_ge hx hb d_U_fill_7 (tgt := 20) (by decide) (fun h => ?_) (fun h => absurd (nI_le (Nat.le_refl _) hnn) h)
      exact W.vret hx hb hr (fun t ht hW => ⟨⟨(), rfl, trivial, by rw [ht]; exact hP, hD⟩, hS.F ht⟩) hS.2.2 d_U_fill_20
    | succ n ih =>
      intro i hi H locs ls hP hD hS hl
      have hlt : i < nn := by omega
      refine lv_iload_n hx hb d_U_fill_5 rfl (lv_at hl 2 rfl) ?_
      refine lv_iload_n hx hb d_U_fill_6 rfl (lv_at hl 3 rfl) ?_
      refine lv_icmp_ge hx hb d_U_fill_7 (tgt := 20) (by decide) (fun h => absurd h (nI_ge hlt hnn)) (fun _ => ?_)
      refine lv_aload_n hx hb d_U_fill_10 rfl (lv_at hl 0 rfl) ?_
      refine lv_iload_n hx hb d_U_fill_11 rfl (lv_at hl 2 rfl) ?_
      refine lv_iload_n hx hb d_U_fill_12 rfl (lv_at hl 1 rfl) ?_
      refine va_iast hx hb hK hP hD hS 0 0 rfl rfl (vp_in_nI hlt hnn) d_U_fill_13 (fun H locs hP hD hS => ?_)
      rw [nI_clamp (by omega), kf_fill_s] at hP hD
      refine lv_iinc (k := 2) (v := nI (i + 1)) hx hb d_U_fill_14 hl rfl (nI_succ i).symm (by decide) rfl (fun ls hl => ?_)
      have hl : lv_has ls 4 [(2, .int (nI (i + 1))), (0, .ref q0), (1, .int a2), (3, .int (nI nn))] := hl
      refine lv_goto hx hb d_U_fill_17 (tgt := 5) (by decide) ?_
      exact ih (i + 1) (by omega) _ _ _ hP hD hS (lv_sub hl [1, 2, 0, 3] rfl)
  refine lv_iconst (v := nI 0) hx hb d_U_fill_0 (by decide) ?_
  refine lv_istore_n hx hb d_U_fill_1 rfl hl (by decide) rfl (fun ls hl => ?_)
  have hl : lv_has ls 4 [(2, .int (nI 0)), (0, .ref q0), (1, .int a2)] := hl
  refine lv_aload_n hx hb d_U_fill_2 rfl (lv_at hl 1 rfl) ?_
  refine va_alen (v := nI nn) hx hb hK hP 0 0 rfl rfl rfl d_U_fill_3 ?_
  refine lv_istore_n hx hb d_U_fill_4 rfl hl (by decide) rfl (fun ls hl => ?_)
  have hl : lv_has ls 4 [(3, .int (nI nn)), (2, .int (nI 0)), (0, .ref q0), (1, .int a2)] := hl
  exact LH nn 0 (by omega) _ _ _ (by rw [kf_fill_0]; exact hP) (by rw [kf_fill_0]; exact hD) hS (lv_sub hl [2, 3, 1, 0] rfl)
