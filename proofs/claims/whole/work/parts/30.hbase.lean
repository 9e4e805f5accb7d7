/-! The law's own methods that call the class and catch: rows for them. -/
theorem tx_or2 {α : Type} {o : Option Nat} {a : Option α} {f : Nat → Option α} {d : α} (h : o.elim a f = some d) : (∃ k, o = some k ∧ f k = some d) ∨ a = some d := by
  cases o with
  | none => exact Or.inr h
  | some k => exact Or.inl ⟨k, rfl, h⟩
theorem tx_S1 {A : Nat → Prop} {H0 H H1 : Heap} {locs : List Loc} (h : va_S A H0 H locs) (hz : H.size ≤ H1.size) (hk : ∀ q : Nat, q < H.size → H1[q]? = H[q]?) : va_S A H0 H1 locs := ⟨Nat.le_trans h.1 hz, fun q h1 h2 => (hk q (Nat.lt_of_lt_of_le h1 h.1)).trans (h.2.1 q h1 h2), h.2.2⟩
theorem tx_kp {D : va_G} {cl : List vw_C} {ws : va_W} {H H1 : Heap} (hP : va_P D cl ws H) (hk : ∀ q : Nat, q < H.size → H1[q]? = H[q]?) : va_P D cl ws H1 := hP.kept (fun k q hq => hk q.1 (hP k q hq).lt)
theorem tx_table {p : Program} {l : Launch} {x : MethodName} {S : Spec} {code : ByteArray} {maxL : Nat} {ret : Option FieldType} {e : Env} {s : State} {m : MethodId} {args : Array Value} {below : List Frame} {meth : Method} {c : Code} {s₁ : State} {hh : List (Nat × Nat × Nat × Nat)}
    (B : BodyLoose p l x S code maxL ret e s m args below meth c s₁) (h : (Cond.codeWith x code maxL ret hh).before args s = true) : c.exceptionTable.toList = tableOf hh := by
  obtain ⟨m', meth', c', hn', hm', hc', -, -, ht, -, -, -⟩ := Cond.codeWith_spec h
  cases B.named.symm.trans hn'
  cases B.method.symm.trans hm'
  cases (Stand.of_body B).code.symm.trans hc'
  rw [← ht, table_eq]
/-- a helper's start -/
def tx_PH (av : List Value) (D : va_G) (tys : List (ClassId × FieldType)) (ws : va_W) (sz : Nat) : Array Value → State → Prop := va_Pc av (fun U => U.heap.size = sz ∧ va_P D vwCl ws U.heap ∧ va_K D vwCl tys U ∧ va_D (fun _ => True) ws ∧ va_Nw tx_nest U ∧ tx_E U)
theorem tx_blH {av : List Value} {D : va_G} {tys : List (ClassId × FieldType)} {ws : va_W} {sz : Nat} : FrameBlind (tx_PH av D tys ws sz) := fun a U g mk q => ⟨q.1, q.2.1, q.2.2.1, va_K.moved (u := U) (U := U.calling g mk a) (Vm.Alike.refl U.vm) q.2.2.2.1, q.2.2.2.2.1, va_Nw.same rfl (rfl : U.vm = (U.calling g mk a).vm) q.2.2.2.2.2.1, tx_E.move (s := U) (U := U.calling g mk a) (State.WarmedH.refl U) (fun _ _ => rfl) q.2.2.2.2.2.2⟩
theorem tx_preH {s : State} {H : Heap} {av : List Value} {D : va_G} {tys : List (ClassId × FieldType)} {ws : va_W} {A : Nat → Prop} (hP : va_P D vwCl ws H) (hD : va_D A ws) (hK : va_K D vwCl tys s) (hN : va_Nw tx_nest s) (hE : ∀ U : State, U.heap = H → s.WarmedH U.vm → tx_E U) : ∀ U : State, U.heap = H → s.WarmedH U.vm → tx_PH av D tys ws H.size av.toArray U :=
  fun U hU hW => ⟨rfl, by rw [hU], by rw [hU]; exact hP, va_K.moved hW.alike hK, hD.weaken (fun _ _ _ _ => trivial), va_Nw.warmM hW hN, hE U hU hW⟩
theorem tx_preX {s : State} {av : List Value} {D : va_G} {tys : List (ClassId × FieldType)} {ws : va_W} (hP : va_P D vwCl ws s.heap) (hK : va_K D vwCl tys s) (hE : tx_E s) : ∀ U : State, U.heap = s.heap → s.WarmedH U.vm → tx_PX av D tys ws av.toArray U :=
  fun U hU hW => ⟨rfl, by rw [hU]; exact hP, va_K.moved hW.alike hK, hE.move hW (fun q _ => by rw [hU])⟩
/-- in the law: what was there before is as it was -/
theorem tx_E_up {s : State} {H : Heap} {locs : List Loc} (hE : tx_E s) (hS : va_S (fun q => s.heap.size ≤ q) s.heap H locs) : ∀ U : State, U.heap = H → s.WarmedH U.vm → tx_E U :=
  fun U hU hW => hE.move hW (fun q hq => by rw [hU]; exact hS.2.1 q hq (Nat.not_le.mpr hq))
theorem tx_ps {X nm : String} {z : ExceptionTableEntry} {pc : Nat} {args : Array Value} {s : State} (h1 : covers z pc = true) (h2 : z.catchType ≠ 0) (h3 : (Cond.classLink "FlashStoreLaw" z.catchType nm).before args s = true) (h4 : va_Nc X nm s) : covers z pc = true ∧ z.catchType ≠ 0 ∧ ∃ nm, (Cond.classLink "FlashStoreLaw" z.catchType nm).before args s = true ∧ va_Nc X nm s := ⟨h1, h2, nm, h3, h4⟩
theorem tx_p1 {α : Type} {P : α → Prop} {a : α} (h : P a) : ∀ z ∈ [a], P z := fun z hz => by
  rcases List.mem_cons.mp hz with rfl | hz
  · exact h
  · cases hz
theorem tx_p2 {α : Type} {P : α → Prop} {a b : α} (h : P a) (h2 : P b) : ∀ z ∈ [a, b], P z := fun z hz => by
  rcases List.mem_cons.mp hz with rfl | hz
  · exact h
  · exact tx_p1 h2 z hz
theorem tx_nc {s : State} {a b : String} (hE : tx_E s) (h : (a, b) ∈ tx_pairs) : va_Nc a b s := hE.2.2.2.2 (a, b) h
theorem tx_cast0 {s : State} {args : Array Value} (hE : tx_E s) : (Cond.castable "java/lang/IllegalArgumentException" "java/lang/IllegalArgumentException").before args s = true := va_Nw.use rfl (hE.2.1 _ (by decide +kernel))
theorem tx_cast1 {s : State} {args : Array Value} (hE : tx_E s) : (Cond.castable "java/lang/IllegalStateException" "java/lang/IllegalStateException").before args s = true := va_Nw.use rfl (hE.2.1 _ (by decide +kernel))
theorem tx_cast2 {s : State} {args : Array Value} (hE : tx_E s) : (Cond.castable "java/lang/ArithmeticException" "java/lang/ArithmeticException").before args s = true := va_Nw.use rfl (hE.2.1 _ (by decide +kernel))
