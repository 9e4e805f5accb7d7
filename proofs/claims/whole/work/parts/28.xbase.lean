/-! What a throw needs of the state: the texts, the tables' words that are no good ones, two statics of Throwable. The rows vx_.. are the printed names' own (claim/NAMES). -/
def vx_no (w : Cond) : Bool := decide (w ≠ .isRef (.static Bundle.tN "UNASSIGNED_STACK" Bundle.steD)) && decide (w ≠ .isRef (.static Bundle.tN "SUPPRESSED_SENTINEL" Bundle.listD)) && decide (w ≠ .laysStatic Bundle.tN "UNASSIGNED_STACK" Bundle.steD) && decide (w ≠ .laysStatic Bundle.tN "SUPPRESSED_SENTINEL" Bundle.listD)
theorem vx_own {args : Array Value} {s : State} {L : List Cond} (h1 : ∀ w ∈ L.filter vx_no, w.before args s = true)
    (hU : (Cond.isRef (.static Bundle.tN "UNASSIGNED_STACK" Bundle.steD)).before args s = true) (hN : (Cond.isRef (.static Bundle.tN "SUPPRESSED_SENTINEL" Bundle.listD)).before args s = true)
    (lU : (Cond.laysStatic Bundle.tN "UNASSIGNED_STACK" Bundle.steD).before args s = true) (lN : (Cond.laysStatic Bundle.tN "SUPPRESSED_SENTINEL" Bundle.listD).before args s = true) : ∀ w ∈ L, w.before args s = true := by
  intro w hw
  by_cases e1 : w = .isRef (.static Bundle.tN "UNASSIGNED_STACK" Bundle.steD)
  · rw [e1]; exact hU
  · by_cases e2 : w = .isRef (.static Bundle.tN "SUPPRESSED_SENTINEL" Bundle.listD)
    · rw [e2]; exact hN
    · by_cases e3 : w = .laysStatic Bundle.tN "UNASSIGNED_STACK" Bundle.steD
      · rw [e3]; exact lU
      · by_cases e4 : w = .laysStatic Bundle.tN "SUPPRESSED_SENTINEL" Bundle.listD
        · rw [e4]; exact lN
        · exact h1 w (List.mem_filter.mpr ⟨hw, by unfold vx_no; rw [decide_eq_true e1, decide_eq_true e2, decide_eq_true e3, decide_eq_true e4]; rfl⟩)
def vx_L (C n d : String) (A : Nat → Prop) (U : State) (H : Heap) : Prop := ∃ (c : ClassId) (k : Class) (i : Nat) (f : Field) (a : Nat) (cell : Cell), U.vm.findClass C = some c ∧ U.fieldFound? C n d = some (c, k, i, f) ∧ f.isStatic = true ∧ k.statics = some a ∧ H[a]? = some cell ∧ cell.vm.isStatics = true ∧ cell.cls = c ∧ f.slot < cell.slots.size ∧ k.staticTypes[f.slot]? = some f.type ∧ ¬ A a
theorem vx_L.moved {C n d : String} {A : Nat → Prop} {u U : State} {H : Heap} (hvm : u.vm.Alike U.vm) (h : vx_L C n d A u H) : vx_L C n d A U H := by
  obtain ⟨c, k, i, f, a, cell, h1, h2, h3, h4, h5, h6, h7, h8, h9, h10⟩ := h
  obtain ⟨k', hi', he⟩ := State.fieldFound?_setVm hvm h2
  exact ⟨c, k', i, f, a, cell, by rw [hvm.findClass]; exact h1, hi', h3, by rw [he]; exact h4, h5, h6, h7, h8, by rw [he]; exact h9, h10⟩
theorem vx_L.kept {C n d : String} {A : Nat → Prop} {U : State} {H H1 : Heap} (h : vx_L C n d A U H) (hq : ∀ a : Nat, a < H.size → ¬ A a → H1[a]? = H[a]?) : vx_L C n d A U H1 := by
  obtain ⟨c, k, i, f, a, cell, h1, h2, h3, h4, h5, h6, h7, h8, h9, h10⟩ := h
  exact ⟨c, k, i, f, a, cell, h1, h2, h3, h4, by rw [hq a (Array.getElem?_eq_some_iff.mp h5).1 h10]; exact h5, h6, h7, h8, h9, h10⟩
theorem vx_L.word {C n d : String} {A : Nat → Prop} {s : State} {args : Array Value} (h : vx_L C n d A s s.heap) : (Cond.laysStatic C n d).before args s = true := by
  obtain ⟨c, k, i, f, a, cell, h1, h2, h3, h4, h5, h6, h7, h8, h9, -⟩ := h
  show (Cond.laysStatic C n d).holds args s none s [] = true
  exact Cond.laysStatic_of h1 h2 h3 h4 h5 h6 h7 h8 h9
def vx_Zq (C n d : String) (A : Nat → Prop) (U : State) (H : Heap) : Prop := va_Zq C n d A U H ∧ vx_L C n d A U H
theorem vx_Zq.moved {C n d : String} {A : Nat → Prop} {u U : State} {H : Heap} (hvm : u.vm.Alike U.vm) (h : vx_Zq C n d A u H) : vx_Zq C n d A U H := ⟨va_Zq.moved hvm h.1, vx_L.moved hvm h.2⟩
theorem vx_Zq.kept {C n d : String} {A : Nat → Prop} {U : State} {H H1 : Heap} (h : vx_Zq C n d A U H) (hq : ∀ a : Nat, a < H.size → ¬ A a → H1[a]? = H[a]?) : vx_Zq C n d A U H1 := ⟨va_Zq.kept h.1 hq, vx_L.kept h.2 hq⟩
theorem vx_Zqof {args : Array Value} {s : State} {C n d : String} {A : Nat → Prop} (hl : (Cond.laysStatic C n d).before args s = true) (hini : (Cond.initialized C).before args s = true) (h : (Cond.isRef (.static C n d)).before args s = true) (hA : ∀ a : Nat, a < s.heap.size → ¬ A a) : vx_Zq C n d A s s.heap := by
  refine ⟨va_Zqof hl hini h hA, ?_⟩
  obtain ⟨c, k, i, f, a, cell, h1, h2, h3, h4, h5, h6, h7, h8, h9⟩ := Cond.laysStatic_spec hl
  exact ⟨c, k, i, f, a, cell, h1, h2, h3, h4, h5, h6, h7, h8, h9, hA a (Array.getElem?_eq_some_iff.mp h5).1⟩
theorem vx_isRef {C n d : String} {v : Value} {A : Nat → Prop} {s : State} {args : Array Value} (h : va_Z C n d v A s s.heap) (hv : v.isRef = true) : (Cond.isRef (.static C n d)).before args s = true := by
  obtain ⟨cf, kf, fi, f, a, cell, h1, h2, h3, h4, h5, h6, h7, -⟩ := h
  have he : (Term.static C n d).eval args s none [] s = some v := by
    simp [Term.eval, State.fieldNamed?, h1, h2, h4, h5, h6, h7]
  simp only [Cond.before, Cond.holds, Cond.value, he]
  cases v <;> simp_all [Value.isRef]
theorem vx_isRefq {C n d : String} {A : Nat → Prop} {s : State} {args : Array Value} (h : va_Zq C n d A s s.heap) : (Cond.isRef (.static C n d)).before args s = true := by
  rcases h with h | ⟨t, h⟩
  · exact vx_isRef h rfl
  · exact vx_isRef h rfl
def tx_names : List String := ["java/lang/IllegalArgumentException", "java/lang/IllegalStateException", "java/lang/ArithmeticException"]
abbrev tx_sup : List String := ["java/lang/RuntimeException", "java/lang/Exception"]
def tx_strs : List (Nat × String) := [(44, "data is not 0 .. 65535"), (53, "a word has 31 bits"), (60, "the word is lost"), (154, "there is no such logical page"), (85, "the store is full"), (95, "the logical page has nothing"), (101, "a word of the page is lost"), (156, "there is no such block"), (158, "there is no such page of a block"), (160, "there is no such word of a page"), (143, "no block can be cleaned")]
abbrev tx_own0 : List Cond := Bundle.ownAtoms "FlashStore" 46 "java/lang/IllegalArgumentException" tx_sup
abbrev tx_own1 : List Cond := Bundle.ownAtoms "FlashStore" 87 "java/lang/IllegalStateException" tx_sup
abbrev tx_own2 : List Cond := Bundle.ownAtoms "FlashStore" 62 "java/lang/ArithmeticException" tx_sup
def tx_face : List Cond := (tx_own0 ++ (tx_own1 ++ tx_own2)).filter (fun w => !goodWord w && vx_no w)
set_option maxRecDepth 100000 in
theorem tx_face_tb : ∀ w ∈ tx_face, w ∈ lw_tbl := by decide +kernel
set_option maxRecDepth 100000 in
theorem tx_face_ok : ∀ w ∈ tx_face, w.onTables = true ∧ w.keepsFace = true := by decide +kernel
set_option maxRecDepth 100000 in
theorem tx_good0 : ∀ w ∈ tx_own0.filter goodWord, w ∈ lw_tbl := by decide +kernel
set_option maxRecDepth 100000 in
theorem tx_good1 : ∀ w ∈ tx_own1.filter goodWord, w ∈ lw_tbl := by decide +kernel
set_option maxRecDepth 100000 in
theorem tx_good2 : ∀ w ∈ tx_own2.filter goodWord, w ∈ lw_tbl := by decide +kernel
def tx_pairs : List (String × String) := [("java/lang/IllegalArgumentException", "java/lang/IllegalStateException"), ("java/lang/IllegalArgumentException", "java/lang/ArithmeticException"), ("java/lang/IllegalStateException", "java/lang/IllegalArgumentException"), ("java/lang/IllegalStateException", "java/lang/ArithmeticException"), ("java/lang/ArithmeticException", "java/lang/IllegalArgumentException"), ("java/lang/ArithmeticException", "java/lang/IllegalStateException")]
def tx_E (U : State) : Prop := (∀ q ∈ tx_strs, ∃ a, vk_R "FlashStore" q.1 q.2 a U) ∧ (∀ w ∈ tx_face, va_Nw w U) ∧ vx_Zq Bundle.tN "UNASSIGNED_STACK" Bundle.steD (fun _ => False) U U.heap ∧ vx_Zq Bundle.tN "SUPPRESSED_SENTINEL" Bundle.listD (fun _ => False) U U.heap ∧ ∀ q ∈ tx_pairs, va_Nc q.1 q.2 U
theorem tx_E.move {s U : State} (hW : s.WarmedH U.vm) (hh : ∀ q : Nat, q < s.heap.size → U.heap[q]? = s.heap[q]?) (h : tx_E s) : tx_E U := by
  refine ⟨fun q hq => ?_, fun w hw => ?_, (h.2.2.1.moved hW.alike).kept (fun a ha _ => hh a ha), (h.2.2.2.1.moved hW.alike).kept (fun a ha _ => hh a ha), fun q hq => (h.2.2.2.2 q hq).moved hW.alike⟩
  · obtain ⟨a, ha⟩ := h.1 q hq
    exact ⟨a, ha.warm hW⟩
  · obtain ⟨g1, g2⟩ := tx_face_ok w hw
    have h1 : w.before #[] (s.setVm U.vm) = true := Cond.before_shiftedFace (State.Shifted.of_warmed hW) _ g2 (h.2.1 w hw)
    exact va_tabs g1 (rfl : (s.setVm U.vm).vm = U.vm) h1
theorem tx_blE {av : List Value} : FrameBlind (va_Pc av tx_E) := fun a U g mk q => ⟨q.1, tx_E.move (s := U) (U := U.calling g mk a) (State.WarmedH.refl U) (fun _ _ => rfl) q.2⟩
theorem tx_preE {s : State} {av : List Value} (hE : tx_E s) : ∀ U : State, U.heap = s.heap → s.WarmedH U.vm → va_Pc av tx_E av.toArray U := fun U hU hW => ⟨rfl, hE.move hW (fun q _ => by rw [hU])⟩
def tx_PX (av : List Value) (D : va_G) (tys : List (ClassId × FieldType)) (ws : va_W) : Array Value → State → Prop := va_Pc av (fun U => va_P D vwCl ws U.heap ∧ va_K D vwCl tys U ∧ tx_E U)
theorem tx_blX {av : List Value} {D : va_G} {tys : List (ClassId × FieldType)} {ws : va_W} : FrameBlind (tx_PX av D tys ws) := fun a U g mk q => ⟨q.1, q.2.1, va_K.moved (u := U) (U := U.calling g mk a) (Vm.Alike.refl U.vm) q.2.2.1, tx_E.move (s := U) (U := U.calling g mk a) (State.WarmedH.refl U) (fun _ _ => rfl) q.2.2.2⟩
theorem tx_ownof {args : Array Value} {s : State} {c1 : Cond} {L : List Cond} (hts : ∀ w ∈ c1 :: bw, w.before args s = true) (hE : tx_E s) (h1 : ∀ w ∈ L.filter goodWord, w ∈ lw_tbl) (h2 : ∀ w ∈ L, w ∈ tx_own0 ++ (tx_own1 ++ tx_own2)) : ∀ w ∈ L, w.before args s = true := by
  refine vx_own (fun w hw => ?_) (vx_isRefq hE.2.2.1.1) (vx_isRefq hE.2.2.2.1.1) hE.2.2.1.2.word hE.2.2.2.1.2.word
  obtain ⟨hw, hno⟩ := List.mem_filter.mp hw
  by_cases g : goodWord w = true
  · exact hts w (List.mem_cons_of_mem _ (bw_in (h1 w (List.mem_filter.mpr ⟨hw, g⟩)) g))
  · have hf : w ∈ tx_face := List.mem_filter.mpr ⟨h2 w hw, by simp [g, hno]⟩
    exact va_Nw.use (tx_face_ok w hf).1 (hE.2.1 w hf)
theorem tx_own_0 {args : Array Value} {s : State} {c1 : Cond} (hts : ∀ w ∈ c1 :: bw, w.before args s = true) (hE : tx_E s) : ∀ w ∈ tx_own0, w.before args s = true := tx_ownof hts hE tx_good0 (fun w h => List.mem_append_left _ h)
theorem tx_own_1 {args : Array Value} {s : State} {c1 : Cond} (hts : ∀ w ∈ c1 :: bw, w.before args s = true) (hE : tx_E s) : ∀ w ∈ tx_own1, w.before args s = true := tx_ownof hts hE tx_good1 (fun w h => List.mem_append_right _ (List.mem_append_left _ h))
theorem tx_own_2 {args : Array Value} {s : State} {c1 : Cond} (hts : ∀ w ∈ c1 :: bw, w.before args s = true) (hE : tx_E s) : ∀ w ∈ tx_own2, w.before args s = true := tx_ownof hts hE tx_good2 (fun w h => List.mem_append_right _ (List.mem_append_right _ h))
