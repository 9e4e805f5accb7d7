/-! The constructors. -/
def kz_f : Nat → Int32 := fun j => if j < 8 then 0 else -1
theorem kz_arr {cA : ClassId} : vp_cell cA (8, .inl kz_f) = arrV cA 8 (fun _ => defaultValue .int) := by
  show arrV cA 8 (fun j => .int (kz_f j)) = _
  unfold arrV
  congr 1
theorem bq_1_27 : (Jvm.Cond.methodLink "FlashStore$Flash" (3 : Nat) ({ cls := "java/lang/Object", name := "<init>", desc := "()V" } : Jvm.MethodName)) ∈ bw := bw_in (List.mem_append_right _ (List.mem_append_left _ (List.mem_of_getElem? (i := 27) rfl))) rfl
theorem bq_1_20 : (Jvm.Cond.instanceMethod ({ cls := "java/lang/Object", name := "<init>", desc := "()V" } : Jvm.MethodName)) ∈ bw := bw_in (List.mem_append_right _ (List.mem_append_left _ (List.mem_of_getElem? (i := 20) rfl))) rfl
theorem bq_1_21 : (Jvm.Cond.code ({ cls := "java/lang/Object", name := "<init>", desc := "()V" } : Jvm.MethodName) object_method_1_code (1 : Nat) (Option.none : Option Jvm.ClassFile.FieldType)) ∈ bw := bw_in (List.mem_append_right _ (List.mem_append_left _ (List.mem_of_getElem? (i := 21) rfl))) rfl
theorem bq_1_39 : (Jvm.Cond.arrayClass Jvm.ClassFile.FieldType.int) ∈ bw := bw_in (List.mem_append_right _ (List.mem_append_left _ (List.mem_of_getElem? (i := 39) rfl))) rfl
theorem bq_1_29 : (Jvm.Cond.methodLink "FlashStore$Flash" (21 : Nat) ({ cls := "java/util/Arrays", name := "fill", desc := "([II)V" } : Jvm.MethodName)) ∈ bw := bw_in (List.mem_append_right _ (List.mem_append_left _ (List.mem_of_getElem? (i := 29) rfl))) rfl
theorem bq_1_19 : (Jvm.Cond.methodLink "FlashStore" (3 : Nat) ({ cls := "java/lang/Object", name := "<init>", desc := "()V" } : Jvm.MethodName)) ∈ bw := bw_in (List.mem_append_right _ (List.mem_append_left _ (List.mem_of_getElem? (i := 19) rfl))) rfl
theorem bq_1_22 : (Jvm.Cond.classLink "FlashStore" (9 : Nat) "FlashStore$Flash") ∈ bw := bw_in (List.mem_append_right _ (List.mem_append_left _ (List.mem_of_getElem? (i := 22) rfl))) rfl
theorem bq_1_23 : (Jvm.Cond.instantiable "FlashStore$Flash" (2 : Nat)) ∈ bw := bw_in (List.mem_append_right _ (List.mem_append_left _ (List.mem_of_getElem? (i := 23) rfl))) rfl
theorem bq_1_26 : (Jvm.Cond.code ({ cls := "FlashStore$Flash", name := "<init>", desc := "()V" } : Jvm.MethodName) prog_3_method_1_code (1 : Nat) (Option.none : Option Jvm.ClassFile.FieldType)) ∈ bw := bw_in (List.mem_append_right _ (List.mem_append_left _ (List.mem_of_getElem? (i := 26) rfl))) rfl
theorem bq_1_24 : (Jvm.Cond.methodLink "FlashStore" (11 : Nat) ({ cls := "FlashStore$Flash", name := "<init>", desc := "()V" } : Jvm.MethodName)) ∈ bw := bw_in (List.mem_append_right _ (List.mem_append_left _ (List.mem_of_getElem? (i := 24) rfl))) rfl
theorem bq_1_25 : (Jvm.Cond.instanceMethod ({ cls := "FlashStore$Flash", name := "<init>", desc := "()V" } : Jvm.MethodName)) ∈ bw := bw_in (List.mem_append_right _ (List.mem_append_left _ (List.mem_of_getElem? (i := 25) rfl))) rfl
theorem bq_2_189 : (Jvm.Cond.methodLink "FlashStoreModel" (1 : Nat) ({ cls := "java/lang/Object", name := "<init>", desc := "()V" } : Jvm.MethodName)) ∈ bw := bw_in (List.mem_append_right _ (List.mem_append_right _ (List.mem_append_left _ (List.mem_of_getElem? (i := 189) rfl)))) rfl
theorem d_M_init_0 : decode b_M_init 0 = .ok (.aload_n 0, 1) := by decide +kernel
theorem d_M_init_1 : decode b_M_init 1 = .ok (.invokespecial 3, 3) := by decide +kernel
theorem d_M_init_4 : decode b_M_init 4 = .ok (.aload_n 0, 1) := by decide +kernel
theorem d_M_init_5 : decode b_M_init 5 = .ok (.bipush 80, 2) := by decide +kernel
theorem d_M_init_7 : decode b_M_init 7 = .ok (.newarray .int, 2) := by decide +kernel
theorem d_M_init_9 : decode b_M_init 9 = .ok (.putfield 11, 3) := by decide +kernel
theorem d_M_init_12 : decode b_M_init 12 = .ok (.aload_n 0, 1) := by decide +kernel
theorem d_M_init_13 : decode b_M_init 13 = .ok (.iconst 4, 1) := by decide +kernel
theorem d_M_init_14 : decode b_M_init 14 = .ok (.newarray .int, 2) := by decide +kernel
theorem d_M_init_16 : decode b_M_init 16 = .ok (.putfield 15, 3) := by decide +kernel
theorem d_M_init_19 : decode b_M_init 19 = .ok (.aload_n 0, 1) := by decide +kernel
theorem d_M_init_20 : decode b_M_init 20 = .ok (.getfield 11, 3) := by decide +kernel
theorem d_M_init_23 : decode b_M_init 23 = .ok (.ldc 20, 2) := by decide +kernel
theorem d_M_init_25 : decode b_M_init 25 = .ok (.invokestatic 21, 3) := by decide +kernel
theorem d_M_init_28 : decode b_M_init 28 = .ok (.return_, 1) := by decide +kernel
theorem d_F_init_0 : decode b_F_init 0 = .ok (.aload_n 0, 1) := by decide +kernel
theorem d_F_init_1 : decode b_F_init 1 = .ok (.invokespecial 3, 3) := by decide +kernel
theorem d_F_init_4 : decode b_F_init 4 = .ok (.aload_n 0, 1) := by decide +kernel
theorem d_F_init_5 : decode b_F_init 5 = .ok (.new 9, 3) := by decide +kernel
theorem d_F_init_8 : decode b_F_init 8 = .ok (.dup, 1) := by decide +kernel
theorem d_F_init_9 : decode b_F_init 9 = .ok (.invokespecial 11, 3) := by decide +kernel
theorem d_F_init_12 : decode b_F_init 12 = .ok (.putfield 12, 3) := by decide +kernel
theorem d_F_init_15 : decode b_F_init 15 = .ok (.aload_n 0, 1) := by decide +kernel
theorem d_F_init_16 : decode b_F_init 16 = .ok (.bipush 16, 2) := by decide +kernel
theorem d_F_init_18 : decode b_F_init 18 = .ok (.newarray .int, 2) := by decide +kernel
theorem d_F_init_20 : decode b_F_init 20 = .ok (.putfield 16, 3) := by decide +kernel
theorem d_F_init_23 : decode b_F_init 23 = .ok (.aload_n 0, 1) := by decide +kernel
theorem d_F_init_24 : decode b_F_init 24 = .ok (.bipush 8, 2) := by decide +kernel
theorem d_F_init_26 : decode b_F_init 26 = .ok (.newarray .int, 2) := by decide +kernel
theorem d_F_init_28 : decode b_F_init 28 = .ok (.putfield 20, 3) := by decide +kernel
theorem d_F_init_31 : decode b_F_init 31 = .ok (.aload_n 0, 1) := by decide +kernel
theorem d_F_init_32 : decode b_F_init 32 = .ok (.bipush 8, 2) := by decide +kernel
theorem d_F_init_34 : decode b_F_init 34 = .ok (.newarray .int, 2) := by decide +kernel
theorem d_F_init_36 : decode b_F_init 36 = .ok (.putfield 23, 3) := by decide +kernel
theorem d_F_init_39 : decode b_F_init 39 = .ok (.aload_n 0, 1) := by decide +kernel
theorem d_F_init_40 : decode b_F_init 40 = .ok (.iconst 0, 1) := by decide +kernel
theorem d_F_init_41 : decode b_F_init 41 = .ok (.putfield 26, 3) := by decide +kernel
theorem d_F_init_44 : decode b_F_init 44 = .ok (.aload_n 0, 1) := by decide +kernel
theorem d_F_init_45 : decode b_F_init 45 = .ok (.iconst 0, 1) := by decide +kernel
theorem d_F_init_46 : decode b_F_init 46 = .ok (.putfield 30, 3) := by decide +kernel
theorem d_F_init_49 : decode b_F_init 49 = .ok (.aload_n 0, 1) := by decide +kernel
theorem d_F_init_50 : decode b_F_init 50 = .ok (.getfield 16, 3) := by decide +kernel
theorem d_F_init_53 : decode b_F_init 53 = .ok (.iconst 0, 1) := by decide +kernel
theorem d_F_init_54 : decode b_F_init 54 = .ok (.invokestatic 33, 3) := by decide +kernel
theorem d_F_init_57 : decode b_F_init 57 = .ok (.aload_n 0, 1) := by decide +kernel
theorem d_F_init_58 : decode b_F_init 58 = .ok (.getfield 20, 3) := by decide +kernel
theorem d_F_init_61 : decode b_F_init 61 = .ok (.iconst (-1), 1) := by decide +kernel
theorem d_F_init_62 : decode b_F_init 62 = .ok (.invokestatic 33, 3) := by decide +kernel
theorem d_F_init_65 : decode b_F_init 65 = .ok (.return_, 1) := by decide +kernel
theorem d_R_init_0 : decode b_R_init 0 = .ok (.aload_n 0, 1) := by decide +kernel
theorem d_R_init_1 : decode b_R_init 1 = .ok (.invokespecial 1, 3) := by decide +kernel
theorem d_R_init_4 : decode b_R_init 4 = .ok (.aload_n 0, 1) := by decide +kernel
theorem d_R_init_5 : decode b_R_init 5 = .ok (.bipush 31, 2) := by decide +kernel
theorem d_R_init_7 : decode b_R_init 7 = .ok (.newarray .int, 2) := by decide +kernel
theorem d_R_init_9 : decode b_R_init 9 = .ok (.putfield 7, 3) := by decide +kernel
theorem d_R_init_12 : decode b_R_init 12 = .ok (.aload_n 0, 1) := by decide +kernel
theorem d_R_init_13 : decode b_R_init 13 = .ok (.bipush 80, 2) := by decide +kernel
theorem d_R_init_15 : decode b_R_init 15 = .ok (.newarray .int, 2) := by decide +kernel
theorem d_R_init_17 : decode b_R_init 17 = .ok (.putfield 13, 3) := by decide +kernel
theorem d_R_init_20 : decode b_R_init 20 = .ok (.aload_n 0, 1) := by decide +kernel
theorem d_R_init_21 : decode b_R_init 21 = .ok (.bipush 16, 2) := by decide +kernel
theorem d_R_init_23 : decode b_R_init 23 = .ok (.newarray .int, 2) := by decide +kernel
theorem d_R_init_25 : decode b_R_init 25 = .ok (.putfield 16, 3) := by decide +kernel
theorem d_R_init_28 : decode b_R_init 28 = .ok (.aload_n 0, 1) := by decide +kernel
theorem d_R_init_29 : decode b_R_init 29 = .ok (.bipush 16, 2) := by decide +kernel
theorem d_R_init_31 : decode b_R_init 31 = .ok (.newarray .int, 2) := by decide +kernel
theorem d_R_init_33 : decode b_R_init 33 = .ok (.putfield 19, 3) := by decide +kernel
theorem d_R_init_36 : decode b_R_init 36 = .ok (.aload_n 0, 1) := by decide +kernel
theorem d_R_init_37 : decode b_R_init 37 = .ok (.bipush 16, 2) := by decide +kernel
theorem d_R_init_39 : decode b_R_init 39 = .ok (.newarray .int, 2) := by decide +kernel
theorem d_R_init_41 : decode b_R_init 41 = .ok (.putfield 22, 3) := by decide +kernel
theorem d_R_init_44 : decode b_R_init 44 = .ok (.aload_n 0, 1) := by decide +kernel
theorem d_R_init_45 : decode b_R_init 45 = .ok (.iconst 4, 1) := by decide +kernel
theorem d_R_init_46 : decode b_R_init 46 = .ok (.newarray .int, 2) := by decide +kernel
theorem d_R_init_48 : decode b_R_init 48 = .ok (.putfield 25, 3) := by decide +kernel
theorem d_R_init_51 : decode b_R_init 51 = .ok (.aload_n 0, 1) := by decide +kernel
theorem d_R_init_52 : decode b_R_init 52 = .ok (.bipush 8, 2) := by decide +kernel
theorem d_R_init_54 : decode b_R_init 54 = .ok (.newarray .int, 2) := by decide +kernel
theorem d_R_init_56 : decode b_R_init 56 = .ok (.putfield 28, 3) := by decide +kernel
theorem d_R_init_59 : decode b_R_init 59 = .ok (.iconst 1, 1) := by decide +kernel
theorem d_R_init_60 : decode b_R_init 60 = .ok (.istore_n 1, 1) := by decide +kernel
theorem d_R_init_61 : decode b_R_init 61 = .ok (.iconst 0, 1) := by decide +kernel
theorem d_R_init_62 : decode b_R_init 62 = .ok (.istore_n 2, 1) := by decide +kernel
theorem d_R_init_63 : decode b_R_init 63 = .ok (.iload_n 2, 1) := by decide +kernel
theorem d_R_init_64 : decode b_R_init 64 = .ok (.bipush 31, 2) := by decide +kernel
theorem d_R_init_66 : decode b_R_init 66 = .ok (.if_icmp .ge 32, 3) := by decide +kernel
theorem d_R_init_69 : decode b_R_init 69 = .ok (.aload_n 0, 1) := by decide +kernel
theorem d_R_init_70 : decode b_R_init 70 = .ok (.getfield 7, 3) := by decide +kernel
theorem d_R_init_73 : decode b_R_init 73 = .ok (.iload_n 2, 1) := by decide +kernel
theorem d_R_init_74 : decode b_R_init 74 = .ok (.iload_n 1, 1) := by decide +kernel
theorem d_R_init_75 : decode b_R_init 75 = .ok (.iastore, 1) := by decide +kernel
theorem d_R_init_76 : decode b_R_init 76 = .ok (.iconst 2, 1) := by decide +kernel
theorem d_R_init_77 : decode b_R_init 77 = .ok (.iload_n 1, 1) := by decide +kernel
theorem d_R_init_78 : decode b_R_init 78 = .ok (.imul, 1) := by decide +kernel
theorem d_R_init_79 : decode b_R_init 79 = .ok (.istore_n 1, 1) := by decide +kernel
theorem d_R_init_80 : decode b_R_init 80 = .ok (.iload_n 1, 1) := by decide +kernel
theorem d_R_init_81 : decode b_R_init 81 = .ok (.sipush 32767, 3) := by decide +kernel
theorem d_R_init_84 : decode b_R_init 84 = .ok (.if_icmp .le 8, 3) := by decide +kernel
theorem d_R_init_87 : decode b_R_init 87 = .ok (.iload_n 1, 1) := by decide +kernel
theorem d_R_init_88 : decode b_R_init 88 = .ok (.ldc 31, 2) := by decide +kernel
theorem d_R_init_90 : decode b_R_init 90 = .ok (.ixor, 1) := by decide +kernel
theorem d_R_init_91 : decode b_R_init 91 = .ok (.istore_n 1, 1) := by decide +kernel
theorem d_R_init_92 : decode b_R_init 92 = .ok (.iinc 2 1, 3) := by decide +kernel
theorem d_R_init_95 : decode b_R_init 95 = .ok (.goto (-32), 3) := by decide +kernel
theorem d_R_init_98 : decode b_R_init 98 = .ok (.iconst 0, 1) := by decide +kernel
theorem d_R_init_99 : decode b_R_init 99 = .ok (.istore_n 2, 1) := by decide +kernel
theorem d_R_init_100 : decode b_R_init 100 = .ok (.iload_n 2, 1) := by decide +kernel
theorem d_R_init_101 : decode b_R_init 101 = .ok (.bipush 80, 2) := by decide +kernel
theorem d_R_init_103 : decode b_R_init 103 = .ok (.if_icmp .ge 17, 3) := by decide +kernel
theorem d_R_init_106 : decode b_R_init 106 = .ok (.aload_n 0, 1) := by decide +kernel
theorem d_R_init_107 : decode b_R_init 107 = .ok (.getfield 13, 3) := by decide +kernel
theorem d_R_init_110 : decode b_R_init 110 = .ok (.iload_n 2, 1) := by decide +kernel
theorem d_R_init_111 : decode b_R_init 111 = .ok (.ldc 32, 2) := by decide +kernel
theorem d_R_init_113 : decode b_R_init 113 = .ok (.iastore, 1) := by decide +kernel
theorem d_R_init_114 : decode b_R_init 114 = .ok (.iinc 2 1, 3) := by decide +kernel
theorem d_R_init_117 : decode b_R_init 117 = .ok (.goto (-17), 3) := by decide +kernel
theorem d_R_init_120 : decode b_R_init 120 = .ok (.return_, 1) := by decide +kernel
abbrev rm_M_init : Room := { frames := 1, cells := 2, slots := 84, locals := 40 }
set_option maxHeartbeats 4000000 in
set_option maxRecDepth 100000 in
theorem c_M_init (l : Launch) (dC : Nat → ClassId) (dI : Nat → Nat → Nat) (h0 sz : Nat) : Met l y_M_init ws_M_init rm_M_init (tx_PW [.ref h0] (dC, dI) [] [(h0, .inr (0, [.null, .null]))] sz) (va_Qv (S := Unit) (fun _ => True) (fun _ t => ∃ (cA : ClassId) (q5 q6 : Nat), va_P (dC, dI) vwCl (wM cA h0 q5 q6 (kf_fill 80 (fun _ => 0) (2147483647 : Int32)) (fun _ => 0)) t.heap ∧ va_K (dC, dI) vwCl [(cA, .int)] t ∧ va_D (va_A [(h0, .inr (0, [.null, .null]))] sz) (wM cA h0 q5 q6 (kf_fill 80 (fun _ => 0) (2147483647 : Int32)) (fun _ => 0))) (va_A [(h0, .inr (0, [.null, .null]))] sz)) 2 84 (va_A [(h0, .inr (0, [.null, .null]))] sz) := by
  refine Met.ofW (cc := b_M_init) (maxL := 1) (ret := none) (by decide +kernel) rfl ?_
  intro p e s m args below meth c s₁ B hml hv
  obtain ⟨hargs, hsz, hP, hK, hD0, hNw⟩ := hv
  have hx := B.exec
  have hb := B.bytes
  have hr := B.returns
  have hts := atoms_spec (ws := ws_M_init) B.pre
  have hown : s.vm.findClass "FlashStore$Flash" = some m.cls := findClass_of_methodNamed B.named
  have hlocks := B.notSynchronized
  have hin : meth.name = "<init>" := (name_of_methodNamed B.named B.method).1
  subst hsz
  have hD := hD0.self (sz := s.heap.size)
  generalize hAe : va_A [(h0, .inr (0, [.null, .null]))] s.heap.size = A at hD ⊢
  have hA : ∀ q : Nat, s.heap.size ≤ q → A q := fun q h => by rw [← hAe]; exact Or.inr h
  have hS : va_S A s.heap s.heap [] := va_S.rf
  have hP : va_P (dC, dI) vwCl [(h0, .inr (0, [.null, .null]))] s.heap := hP
  have hl := lv_entry ([.ref h0]) (n := 1) (Nat.le_of_ble_eq_true rfl)
  have hen : entryFrame m args 1 = _ := (congrArg (fun z => entryFrame m z 1) hargs).trans (lg_entry_eq m ([.ref h0]) 1)
  refine W.eq hen ?_
  clear hen
  generalize (lg_sl ([.ref h0]) ++ List.replicate (1 - (lg_sl ([.ref h0])).length) Slot.unset).toArray = ls at hl ⊢
  have hl : lv_has ls 1 [(0, .ref h0)] := hl
  refine lv_aload_n hx hb d_M_init_0 rfl (lv_at hl 0 rfl) ?_
  refine W.objInit hx hb hown (hts _ (List.mem_cons_of_mem _ bq_1_27)) (hts _ (List.mem_cons_of_mem _ bq_1_20)) (hts _ (List.mem_cons_of_mem _ bq_1_21)) rfl (by rw [hml]; exact hl.1) rfl d_M_init_1 (Nat.le_of_ble_eq_true rfl) (Nat.le_of_ble_eq_true rfl) ?_
  refine W.eq (g2 := F0 m 4 ls []) rfl ?_
  refine lv_aload_n hx hb d_M_init_4 rfl (lv_at hl 0 rfl) ?_
  refine lv_bipush (v := (80 : Int32)) hx hb d_M_init_5 (by decide) ?_
  refine va_newa (atype := .int) (a0 := (80, .inl (fun _ => 0))) (N' := 80) (ty := .int) hx hb (hts _ (List.mem_cons_of_mem _ bq_1_39)) rfl hK hP hD hS hA (fun _ => rfl) (by decide) (by decide) (Nat.le_of_ble_eq_true rfl) (Nat.le_of_ble_eq_true rfl) (Nat.le_of_ble_eq_true rfl) d_M_init_7 (fun q5 cA H hK hP hD hS => ?_)
  have hK : va_K (dC, dI) vwCl [(cA, .int)] s := hK
  have hP : va_P (dC, dI) vwCl [(h0, .inr (0, [.null, .null])), (q5, .inl (cA, 80, .inl (fun _ => 0)))] H := hP
  have hD : va_D A [(h0, .inr (0, [.null, .null])), (q5, .inl (cA, 80, .inl (fun _ => 0)))] := hD
  refine W.widen (k := 1) (n := 80) (Nat.le_of_ble_eq_true rfl) (Nat.le_of_ble_eq_true rfl) ?_
  refine va_putF (D := (dC, dI)) (ci := 0) (v := .ref q5) (ty := .array .int) (C := "FlashStore$Flash") (T := TM) (N := 2) hx hb hts inTM tyTM tyTM_ok nmTM hown hK hP hD hS 0 rfl rfl 0 (by decide) (hts _ (List.mem_cons_of_mem _ bq_1_32)) (fun _ h9 => h9) rfl hin rfl (by decide +kernel) rfl rfl (Nat.le_of_ble_eq_true rfl) d_M_init_9 (fun H locs hP hD hS => ?_)
  have hP : va_P (dC, dI) vwCl [(h0, .inr (0, [.ref q5, .null])), (q5, .inl (cA, 80, .inl (fun _ => 0)))] H := hP
  have hD : va_D A [(h0, .inr (0, [.ref q5, .null])), (q5, .inl (cA, 80, .inl (fun _ => 0)))] := hD
  refine lv_aload_n hx hb d_M_init_12 rfl (lv_at hl 0 rfl) ?_
  refine lv_iconst (v := (4 : Int32)) hx hb d_M_init_13 (by decide) ?_
  refine va_newa (atype := .int) (a0 := (4, .inl (fun _ => 0))) (N' := 4) (ty := .int) hx hb (hts _ (List.mem_cons_of_mem _ bq_1_39)) rfl hK hP hD hS hA (fun _ => rfl) (by decide) (by decide) (Nat.le_of_ble_eq_true rfl) (Nat.le_of_ble_eq_true rfl) (Nat.le_of_ble_eq_true rfl) d_M_init_14 (fun q6 cN H hK hP hD hS => ?_)
  obtain rfl : cA = cN := Option.some.inj ((va_nm_int (hK.2 0 _ rfl).2).symm.trans (va_nm_int (hK.2 1 _ rfl).2))
  have hK : va_K (dC, dI) vwCl [(cA, .int)] s := hK.sub [0] rfl
  have hP : va_P (dC, dI) vwCl [(h0, .inr (0, [.ref q5, .null])), (q5, .inl (cA, 80, .inl (fun _ => 0))), (q6, .inl (cA, 4, .inl (fun _ => 0)))] H := hP
  have hD : va_D A [(h0, .inr (0, [.ref q5, .null])), (q5, .inl (cA, 80, .inl (fun _ => 0))), (q6, .inl (cA, 4, .inl (fun _ => 0)))] := hD
  refine W.widen (k := 2) (n := 84) (Nat.le_of_ble_eq_true rfl) (Nat.le_of_ble_eq_true rfl) ?_
  refine va_putF (D := (dC, dI)) (ci := 0) (v := .ref q6) (ty := .array .int) (C := "FlashStore$Flash") (T := TM) (N := 2) hx hb hts inTM tyTM tyTM_ok nmTM hown hK hP hD hS 0 rfl rfl 1 (by decide) (hts _ (List.mem_cons_of_mem _ bq_1_33)) (fun _ h9 => h9) rfl hin rfl (by decide +kernel) rfl rfl (Nat.le_of_ble_eq_true rfl) d_M_init_16 (fun H locs hP hD hS => ?_)
  have hP : va_P (dC, dI) vwCl [(h0, .inr (0, [.ref q5, .ref q6])), (q5, .inl (cA, 80, .inl (fun _ => 0))), (q6, .inl (cA, 4, .inl (fun _ => 0)))] H := hP
  have hD : va_D A [(h0, .inr (0, [.ref q5, .ref q6])), (q5, .inl (cA, 80, .inl (fun _ => 0))), (q6, .inl (cA, 4, .inl (fun _ => 0)))] := hD
  refine lv_aload_n hx hb d_M_init_19 rfl (lv_at hl 0 rfl) ?_
  refine va_get (D := (dC, dI)) (ci := 0) (v := .ref q5) (C := "FlashStore$Flash") (T := TM) (N := 2) hx hb hts inTM hown hK hP 0 rfl rfl 0 (by decide) (hts _ (List.mem_cons_of_mem _ bq_1_32)) (fun _ h9 => h9) rfl d_M_init_20 ?_
  refine lv_ldc hx hb hown (hts (.constant "FlashStore$Flash" 20 (2147483647 : Int32)) (by decide +kernel)) d_M_init_23 ?_
  have hPc := hP.sub (ws' := [(q5, .inl (cA, 80, .inl (fun _ => 0)))]) [1] rfl
  have hDc := hD.sub (ws' := [(q5, .inl (cA, 80, .inl (fun _ => 0)))]) [1] (by decide) rfl
  have hFc := va_free (wc := [(q5, .inl (cA, 80, .inl (fun _ => 0)))]) hD hS hA [1] rfl
  refine va_callv (va_runS (As := [.ref q5, .int (2147483647 : Int32)]) (rest := []) ⟨hx, hb, hml, hown, hts⟩ (c_U_fill l dC dI cA q5 80 H.size (fun _ => 0) (2147483647 : Int32) (by decide)) (va_cwS 2 hts (tg_S bq_1_29 bq_1_30 bq_1_3 bq_1_31) rfl rfl rfl (by decide +kernel) ⟨Nat.le_of_ble_eq_true rfl, Nat.le_of_ble_eq_true rfl⟩) ⟨tx_blW, tx_preW hPc hDc hK hNw⟩ rfl rfl hl.1 rfl (lv_room (Nat.le_of_ble_eq_true rfl)) d_M_init_25 ⟨Nat.le_of_ble_eq_true rfl, Nat.le_of_ble_eq_true rfl⟩) hS (fun q _ h => hFc q h) hFc (fun _u t H locs ht hvm hw hB hz1 hk1 hS => ?_)
  obtain ⟨hP1, hD1⟩ := hB
  rw [ht] at hP1
  obtain ⟨hP2, hD2⟩ := va_join (wr := [(h0, .inr (0, [.ref q5, .ref q6])), (q6, .inl (cA, 4, .inl (fun _ => 0)))]) (w1 := [(q5, .inl (cA, 80, .inl (kf_fill 80 (fun _ => 0) (2147483647 : Int32))))]) hP hD [1] [0, 2] rfl rfl (by decide) (by decide) hk1 hFc hP1 hD1
  have hP := hP2.sub (ws' := [(h0, .inr (0, [.ref q5, .ref q6])), (q5, .inl (cA, 80, .inl (kf_fill 80 (fun _ => 0) (2147483647 : Int32)))), (q6, .inl (cA, 4, .inl (fun _ => 0)))]) [0, 2, 1] rfl
  have hD := hD2.sub (ws' := [(h0, .inr (0, [.ref q5, .ref q6])), (q5, .inl (cA, 80, .inl (kf_fill 80 (fun _ => 0) (2147483647 : Int32)))), (q6, .inl (cA, 4, .inl (fun _ => 0)))]) [0, 2, 1] (by decide) rfl
  exact W.vret hx hb hr (fun t ht hW => ⟨⟨(), rfl, trivial, cA, q5, q6, by rw [ht]; exact hP, va_K.moved hW.alike hK, hD⟩, hS.F ht⟩) hS.2.2 d_M_init_28
abbrev rm_F_init : Room := { frames := 2, cells := 6, slots := 118, locals := 80 }
set_option maxHeartbeats 4000000 in
set_option maxRecDepth 100000 in
theorem c_F_init (l : Launch) (dC : Nat → ClassId) (dI : Nat → Nat → Nat) (h0 sz : Nat) : Met l y_F_init ws_F_init rm_F_init (tx_PW [.ref h0] (dC, dI) [] [(h0, .inr (1, [.null, .null, .null, .null, .int 0, .int 0]))] sz) (va_Qv (S := Unit) (fun _ => True) (fun _ t => ∃ (cA : ClassId) (q1 q2 q3 q4 q5 q6 : Nat), va_P (dC, dI) vwCl (wF cA h0 q1 q2 q3 q4 q5 q6 (kf_fill 16 (fun _ => 0) (0 : Int32)) (kf_fill 8 kz_f (-1 : Int32)) (fun _ => 0) (kf_fill 80 (fun _ => 0) (2147483647 : Int32)) (fun _ => 0) (0 : Int32) (0 : Int32)) t.heap ∧ va_K (dC, dI) vwCl [(cA, .int)] t ∧ va_D (va_A [(h0, .inr (1, [.null, .null, .null, .null, .int 0, .int 0]))] sz) (wF cA h0 q1 q2 q3 q4 q5 q6 (kf_fill 16 (fun _ => 0) (0 : Int32)) (kf_fill 8 kz_f (-1 : Int32)) (fun _ => 0) (kf_fill 80 (fun _ => 0) (2147483647 : Int32)) (fun _ => 0) (0 : Int32) (0 : Int32))) (va_A [(h0, .inr (1, [.null, .null, .null, .null, .int 0, .int 0]))] sz)) 6 118 (va_A [(h0, .inr (1, [.null, .null, .null, .null, .int 0, .int 0]))] sz) := by
  refine Met.ofW (cc := b_F_init) (maxL := 1) (ret := none) (by decide +kernel) rfl ?_
  intro p e s m args below meth c s₁ B hml hv
  obtain ⟨hargs, hsz, hP, hK, hD0, hNw⟩ := hv
  have hx := B.exec
  have hb := B.bytes
  have hr := B.returns
  have hts := atoms_spec (ws := ws_F_init) B.pre
  have hown : s.vm.findClass "FlashStore" = some m.cls := findClass_of_methodNamed B.named
  have hlocks := B.notSynchronized
  have hin : meth.name = "<init>" := (name_of_methodNamed B.named B.method).1
  subst hsz
  have hD := hD0.self (sz := s.heap.size)
  generalize hAe : va_A [(h0, .inr (1, [.null, .null, .null, .null, .int 0, .int 0]))] s.heap.size = A at hD ⊢
  have hA : ∀ q : Nat, s.heap.size ≤ q → A q := fun q h => by rw [← hAe]; exact Or.inr h
  have hS : va_S A s.heap s.heap [] := va_S.rf
  have hP : va_P (dC, dI) vwCl [(h0, .inr (1, [.null, .null, .null, .null, .int 0, .int 0]))] s.heap := hP
  have hl := lv_entry ([.ref h0]) (n := 1) (Nat.le_of_ble_eq_true rfl)
  have hen : entryFrame m args 1 = _ := (congrArg (fun z => entryFrame m z 1) hargs).trans (lg_entry_eq m ([.ref h0]) 1)
  refine W.eq hen ?_
  clear hen
  generalize (lg_sl ([.ref h0]) ++ List.replicate (1 - (lg_sl ([.ref h0])).length) Slot.unset).toArray = ls at hl ⊢
  have hl : lv_has ls 1 [(0, .ref h0)] := hl
  refine lv_aload_n hx hb d_F_init_0 rfl (lv_at hl 0 rfl) ?_
  refine W.objInit hx hb hown (hts _ (List.mem_cons_of_mem _ bq_1_19)) (hts _ (List.mem_cons_of_mem _ bq_1_20)) (hts _ (List.mem_cons_of_mem _ bq_1_21)) rfl (by rw [hml]; exact hl.1) rfl d_F_init_1 (Nat.le_of_ble_eq_true rfl) (Nat.le_of_ble_eq_true rfl) ?_
  refine W.eq (g2 := F0 m 4 ls []) rfl ?_
  refine lv_aload_n hx hb d_F_init_4 rfl (lv_at hl 0 rfl) ?_
  refine va_new (ci := 0) (fs := [.null, .null]) (C := "FlashStore$Flash") (T := TM) (N := 2) hx hb hts inTM tyTM tyTM_ok hown (hts _ (List.mem_cons_of_mem _ bq_1_22)) (hts _ (List.mem_cons_of_mem _ bq_1_23)) (hts _ (List.mem_cons_of_mem _ bq_1_2)) hK hP hD hS hA rfl (fun j hj => by rcases (show j = 0 ∨ j = 1 by omega) with rfl | rfl <;> rfl) (Nat.le_of_ble_eq_true rfl) (Nat.le_of_ble_eq_true rfl) d_F_init_5 (fun q1 H hP hD hS => ?_)
  have hP : va_P (dC, dI) vwCl [(h0, .inr (1, [.null, .null, .null, .null, .int 0, .int 0])), (q1, .inr (0, [.null, .null]))] H := hP
  have hD : va_D A [(h0, .inr (1, [.null, .null, .null, .null, .int 0, .int 0])), (q1, .inr (0, [.null, .null]))] := hD
  refine W.widen (k := 1) (n := 2) (Nat.le_of_ble_eq_true rfl) (Nat.le_of_ble_eq_true rfl) ?_
  refine lv_dup hx hb d_F_init_8 rfl ?_
  have hPc := hP.sub (ws' := [(q1, .inr (0, [.null, .null]))]) [1] rfl
  have hDc := hD.sub (ws' := [(q1, .inr (0, [.null, .null]))]) [1] (by decide) rfl
  have hFc := va_free (wc := [(q1, .inr (0, [.null, .null]))]) hD hS hA [1] rfl
  refine va_callv (va_runI (As := []) (rest := [.ref q1, .ref h0]) ⟨hx, hb, hml, hown, hts⟩ (c_M_init l dC dI q1 H.size) (cwI 0 hts (tg_N bq_1_26) rfl rfl rfl (hts _ (List.mem_cons_of_mem _ bq_1_2)) (hts _ (List.mem_cons_of_mem _ bq_1_24)) (hts _ (List.mem_cons_of_mem _ bq_1_25)) rfl (by decide +kernel) ⟨Nat.le_of_ble_eq_true rfl, Nat.le_of_ble_eq_true rfl⟩) ⟨tx_blW, tx_preW hPc hDc hK hNw⟩ rfl rfl hl.1 rfl (lv_room (Nat.le_of_ble_eq_true rfl)) d_F_init_9 ⟨Nat.le_of_ble_eq_true rfl, Nat.le_of_ble_eq_true rfl⟩) hS (fun q _ h => hFc q h) hFc (fun _u t H locs ht hvm hw hB hz1 hk1 hS => ?_)
  obtain ⟨cA, q5, q6, hP1, hK1, hD1⟩ := hB
  rw [ht] at hP1
  have hK : va_K (dC, dI) vwCl [(cA, .int)] s := va_K.moved hvm.symm hK1
  obtain ⟨hP, hD⟩ := va_join (wr := [(h0, .inr (1, [.null, .null, .null, .null, .int 0, .int 0]))]) (w1 := [(q1, .inr (0, [.ref q5, .ref q6])), (q5, .inl (cA, 80, .inl (kf_fill 80 (fun _ => 0) (2147483647 : Int32)))), (q6, .inl (cA, 4, .inl (fun _ => 0)))]) hP hD [1] [0] rfl rfl (by decide) (by decide) hk1 hFc hP1 hD1
  have hP : va_P (dC, dI) vwCl [(h0, .inr (1, [.null, .null, .null, .null, .int 0, .int 0])), (q1, .inr (0, [.ref q5, .ref q6])), (q5, .inl (cA, 80, .inl (kf_fill 80 (fun _ => 0) (2147483647 : Int32)))), (q6, .inl (cA, 4, .inl (fun _ => 0)))] H := hP
  have hD : va_D A [(h0, .inr (1, [.null, .null, .null, .null, .int 0, .int 0])), (q1, .inr (0, [.ref q5, .ref q6])), (q5, .inl (cA, 80, .inl (kf_fill 80 (fun _ => 0) (2147483647 : Int32)))), (q6, .inl (cA, 4, .inl (fun _ => 0)))] := hD
  refine W.widen (k := 3) (n := 86) (Nat.le_of_ble_eq_true rfl) (Nat.le_of_ble_eq_true rfl) ?_
  refine va_putF (D := (dC, dI)) (ci := 1) (v := .ref q1) (ty := .object "FlashStore$Flash") (C := "FlashStore") (T := TF) (N := 6) hx hb hts inTF tyTF tyTF_ok nmTF hown hK hP hD hS 0 rfl rfl 0 (by decide) (hts _ (List.mem_cons_of_mem _ bq_1_41)) (fun _ h9 => h9) rfl hin rfl (by decide +kernel) rfl rfl (Nat.le_of_ble_eq_true rfl) d_F_init_12 (fun H locs hP hD hS => ?_)
  have hP : va_P (dC, dI) vwCl [(h0, .inr (1, [.ref q1, .null, .null, .null, .int 0, .int 0])), (q1, .inr (0, [.ref q5, .ref q6])), (q5, .inl (cA, 80, .inl (kf_fill 80 (fun _ => 0) (2147483647 : Int32)))), (q6, .inl (cA, 4, .inl (fun _ => 0)))] H := hP
  have hD : va_D A [(h0, .inr (1, [.ref q1, .null, .null, .null, .int 0, .int 0])), (q1, .inr (0, [.ref q5, .ref q6])), (q5, .inl (cA, 80, .inl (kf_fill 80 (fun _ => 0) (2147483647 : Int32)))), (q6, .inl (cA, 4, .inl (fun _ => 0)))] := hD
  refine lv_aload_n hx hb d_F_init_15 rfl (lv_at hl 0 rfl) ?_
  refine lv_bipush (v := (16 : Int32)) hx hb d_F_init_16 (by decide) ?_
  refine va_newa (atype := .int) (a0 := (16, .inl (fun _ => 0))) (N' := 16) (ty := .int) hx hb (hts _ (List.mem_cons_of_mem _ bq_1_39)) rfl hK hP hD hS hA (fun _ => rfl) (by decide) (by decide) (Nat.le_of_ble_eq_true rfl) (Nat.le_of_ble_eq_true rfl) (Nat.le_of_ble_eq_true rfl) d_F_init_18 (fun q2 cN H hK hP hD hS => ?_)
  obtain rfl : cA = cN := Option.some.inj ((va_nm_int (hK.2 0 _ rfl).2).symm.trans (va_nm_int (hK.2 1 _ rfl).2))
  have hK : va_K (dC, dI) vwCl [(cA, .int)] s := hK.sub [0] rfl
  have hP : va_P (dC, dI) vwCl [(h0, .inr (1, [.ref q1, .null, .null, .null, .int 0, .int 0])), (q1, .inr (0, [.ref q5, .ref q6])), (q5, .inl (cA, 80, .inl (kf_fill 80 (fun _ => 0) (2147483647 : Int32)))), (q6, .inl (cA, 4, .inl (fun _ => 0))), (q2, .inl (cA, 16, .inl (fun _ => 0)))] H := hP
  have hD : va_D A [(h0, .inr (1, [.ref q1, .null, .null, .null, .int 0, .int 0])), (q1, .inr (0, [.ref q5, .ref q6])), (q5, .inl (cA, 80, .inl (kf_fill 80 (fun _ => 0) (2147483647 : Int32)))), (q6, .inl (cA, 4, .inl (fun _ => 0))), (q2, .inl (cA, 16, .inl (fun _ => 0)))] := hD
  refine W.widen (k := 4) (n := 102) (Nat.le_of_ble_eq_true rfl) (Nat.le_of_ble_eq_true rfl) ?_
  refine va_putF (D := (dC, dI)) (ci := 1) (v := .ref q2) (ty := .array .int) (C := "FlashStore") (T := TF) (N := 6) hx hb hts inTF tyTF tyTF_ok nmTF hown hK hP hD hS 0 rfl rfl 1 (by decide) (hts _ (List.mem_cons_of_mem _ bq_1_42)) (fun _ h9 => h9) rfl hin rfl (by decide +kernel) rfl rfl (Nat.le_of_ble_eq_true rfl) d_F_init_20 (fun H locs hP hD hS => ?_)
  have hP : va_P (dC, dI) vwCl [(h0, .inr (1, [.ref q1, .ref q2, .null, .null, .int 0, .int 0])), (q1, .inr (0, [.ref q5, .ref q6])), (q5, .inl (cA, 80, .inl (kf_fill 80 (fun _ => 0) (2147483647 : Int32)))), (q6, .inl (cA, 4, .inl (fun _ => 0))), (q2, .inl (cA, 16, .inl (fun _ => 0)))] H := hP
  have hD : va_D A [(h0, .inr (1, [.ref q1, .ref q2, .null, .null, .int 0, .int 0])), (q1, .inr (0, [.ref q5, .ref q6])), (q5, .inl (cA, 80, .inl (kf_fill 80 (fun _ => 0) (2147483647 : Int32)))), (q6, .inl (cA, 4, .inl (fun _ => 0))), (q2, .inl (cA, 16, .inl (fun _ => 0)))] := hD
  refine lv_aload_n hx hb d_F_init_23 rfl (lv_at hl 0 rfl) ?_
  refine lv_bipush (v := (8 : Int32)) hx hb d_F_init_24 (by decide) ?_
  refine va_newa (atype := .int) (a0 := (8, .inl kz_f)) (N' := 8) (ty := .int) hx hb (hts _ (List.mem_cons_of_mem _ bq_1_39)) rfl hK hP hD hS hA (fun _ => kz_arr) (by decide) (by decide) (Nat.le_of_ble_eq_true rfl) (Nat.le_of_ble_eq_true rfl) (Nat.le_of_ble_eq_true rfl) d_F_init_26 (fun q3 cN H hK hP hD hS => ?_)
  obtain rfl : cA = cN := Option.some.inj ((va_nm_int (hK.2 0 _ rfl).2).symm.trans (va_nm_int (hK.2 1 _ rfl).2))
  have hK : va_K (dC, dI) vwCl [(cA, .int)] s := hK.sub [0] rfl
  have hP : va_P (dC, dI) vwCl [(h0, .inr (1, [.ref q1, .ref q2, .null, .null, .int 0, .int 0])), (q1, .inr (0, [.ref q5, .ref q6])), (q5, .inl (cA, 80, .inl (kf_fill 80 (fun _ => 0) (2147483647 : Int32)))), (q6, .inl (cA, 4, .inl (fun _ => 0))), (q2, .inl (cA, 16, .inl (fun _ => 0))), (q3, .inl (cA, 8, .inl kz_f))] H := hP
  have hD : va_D A [(h0, .inr (1, [.ref q1, .ref q2, .null, .null, .int 0, .int 0])), (q1, .inr (0, [.ref q5, .ref q6])), (q5, .inl (cA, 80, .inl (kf_fill 80 (fun _ => 0) (2147483647 : Int32)))), (q6, .inl (cA, 4, .inl (fun _ => 0))), (q2, .inl (cA, 16, .inl (fun _ => 0))), (q3, .inl (cA, 8, .inl kz_f))] := hD
  refine W.widen (k := 5) (n := 110) (Nat.le_of_ble_eq_true rfl) (Nat.le_of_ble_eq_true rfl) ?_
  refine va_putF (D := (dC, dI)) (ci := 1) (v := .ref q3) (ty := .array .int) (C := "FlashStore") (T := TF) (N := 6) hx hb hts inTF tyTF tyTF_ok nmTF hown hK hP hD hS 0 rfl rfl 2 (by decide) (hts _ (List.mem_cons_of_mem _ bq_1_43)) (fun _ h9 => h9) rfl hin rfl (by decide +kernel) rfl rfl (Nat.le_of_ble_eq_true rfl) d_F_init_28 (fun H locs hP hD hS => ?_)
  have hP : va_P (dC, dI) vwCl [(h0, .inr (1, [.ref q1, .ref q2, .ref q3, .null, .int 0, .int 0])), (q1, .inr (0, [.ref q5, .ref q6])), (q5, .inl (cA, 80, .inl (kf_fill 80 (fun _ => 0) (2147483647 : Int32)))), (q6, .inl (cA, 4, .inl (fun _ => 0))), (q2, .inl (cA, 16, .inl (fun _ => 0))), (q3, .inl (cA, 8, .inl kz_f))] H := hP
  have hD : va_D A [(h0, .inr (1, [.ref q1, .ref q2, .ref q3, .null, .int 0, .int 0])), (q1, .inr (0, [.ref q5, .ref q6])), (q5, .inl (cA, 80, .inl (kf_fill 80 (fun _ => 0) (2147483647 : Int32)))), (q6, .inl (cA, 4, .inl (fun _ => 0))), (q2, .inl (cA, 16, .inl (fun _ => 0))), (q3, .inl (cA, 8, .inl kz_f))] := hD
  refine lv_aload_n hx hb d_F_init_31 rfl (lv_at hl 0 rfl) ?_
  refine lv_bipush (v := (8 : Int32)) hx hb d_F_init_32 (by decide) ?_
  refine va_newa (atype := .int) (a0 := (8, .inl (fun _ => 0))) (N' := 8) (ty := .int) hx hb (hts _ (List.mem_cons_of_mem _ bq_1_39)) rfl hK hP hD hS hA (fun _ => rfl) (by decide) (by decide) (Nat.le_of_ble_eq_true rfl) (Nat.le_of_ble_eq_true rfl) (Nat.le_of_ble_eq_true rfl) d_F_init_34 (fun q4 cN H hK hP hD hS => ?_)
  obtain rfl : cA = cN := Option.some.inj ((va_nm_int (hK.2 0 _ rfl).2).symm.trans (va_nm_int (hK.2 1 _ rfl).2))
  have hK : va_K (dC, dI) vwCl [(cA, .int)] s := hK.sub [0] rfl
  have hP : va_P (dC, dI) vwCl [(h0, .inr (1, [.ref q1, .ref q2, .ref q3, .null, .int 0, .int 0])), (q1, .inr (0, [.ref q5, .ref q6])), (q5, .inl (cA, 80, .inl (kf_fill 80 (fun _ => 0) (2147483647 : Int32)))), (q6, .inl (cA, 4, .inl (fun _ => 0))), (q2, .inl (cA, 16, .inl (fun _ => 0))), (q3, .inl (cA, 8, .inl kz_f)), (q4, .inl (cA, 8, .inl (fun _ => 0)))] H := hP
  have hD : va_D A [(h0, .inr (1, [.ref q1, .ref q2, .ref q3, .null, .int 0, .int 0])), (q1, .inr (0, [.ref q5, .ref q6])), (q5, .inl (cA, 80, .inl (kf_fill 80 (fun _ => 0) (2147483647 : Int32)))), (q6, .inl (cA, 4, .inl (fun _ => 0))), (q2, .inl (cA, 16, .inl (fun _ => 0))), (q3, .inl (cA, 8, .inl kz_f)), (q4, .inl (cA, 8, .inl (fun _ => 0)))] := hD
  refine W.widen (k := 6) (n := 118) (Nat.le_of_ble_eq_true rfl) (Nat.le_of_ble_eq_true rfl) ?_
  refine va_putF (D := (dC, dI)) (ci := 1) (v := .ref q4) (ty := .array .int) (C := "FlashStore") (T := TF) (N := 6) hx hb hts inTF tyTF tyTF_ok nmTF hown hK hP hD hS 0 rfl rfl 3 (by decide) (hts _ (List.mem_cons_of_mem _ bq_1_44)) (fun _ h9 => h9) rfl hin rfl (by decide +kernel) rfl rfl (Nat.le_of_ble_eq_true rfl) d_F_init_36 (fun H locs hP hD hS => ?_)
  have hP : va_P (dC, dI) vwCl [(h0, .inr (1, [.ref q1, .ref q2, .ref q3, .ref q4, .int 0, .int 0])), (q1, .inr (0, [.ref q5, .ref q6])), (q5, .inl (cA, 80, .inl (kf_fill 80 (fun _ => 0) (2147483647 : Int32)))), (q6, .inl (cA, 4, .inl (fun _ => 0))), (q2, .inl (cA, 16, .inl (fun _ => 0))), (q3, .inl (cA, 8, .inl kz_f)), (q4, .inl (cA, 8, .inl (fun _ => 0)))] H := hP
  have hD : va_D A [(h0, .inr (1, [.ref q1, .ref q2, .ref q3, .ref q4, .int 0, .int 0])), (q1, .inr (0, [.ref q5, .ref q6])), (q5, .inl (cA, 80, .inl (kf_fill 80 (fun _ => 0) (2147483647 : Int32)))), (q6, .inl (cA, 4, .inl (fun _ => 0))), (q2, .inl (cA, 16, .inl (fun _ => 0))), (q3, .inl (cA, 8, .inl kz_f)), (q4, .inl (cA, 8, .inl (fun _ => 0)))] := hD
  refine lv_aload_n hx hb d_F_init_39 rfl (lv_at hl 0 rfl) ?_
  refine lv_iconst (v := (0 : Int32)) hx hb d_F_init_40 (by decide) ?_
  refine va_put (D := (dC, dI)) (ci := 1) (v := .int (0 : Int32)) (ty := .int) (C := "FlashStore") (T := TF) (N := 6) hx hb hts inTF tyTF tyTF_ok nmTF hown hK hP hD hS 0 rfl rfl 4 (by decide) (hts _ (List.mem_cons_of_mem _ bq_1_45)) (fun _ h9 => h9) rfl (by decide +kernel) rfl rfl (Nat.le_of_ble_eq_true rfl) d_F_init_41 (fun H locs hP hD hS => ?_)
  have hP : va_P (dC, dI) vwCl [(h0, .inr (1, [.ref q1, .ref q2, .ref q3, .ref q4, .int (0 : Int32), .int 0])), (q1, .inr (0, [.ref q5, .ref q6])), (q5, .inl (cA, 80, .inl (kf_fill 80 (fun _ => 0) (2147483647 : Int32)))), (q6, .inl (cA, 4, .inl (fun _ => 0))), (q2, .inl (cA, 16, .inl (fun _ => 0))), (q3, .inl (cA, 8, .inl kz_f)), (q4, .inl (cA, 8, .inl (fun _ => 0)))] H := hP
  have hD : va_D A [(h0, .inr (1, [.ref q1, .ref q2, .ref q3, .ref q4, .int (0 : Int32), .int 0])), (q1, .inr (0, [.ref q5, .ref q6])), (q5, .inl (cA, 80, .inl (kf_fill 80 (fun _ => 0) (2147483647 : Int32)))), (q6, .inl (cA, 4, .inl (fun _ => 0))), (q2, .inl (cA, 16, .inl (fun _ => 0))), (q3, .inl (cA, 8, .inl kz_f)), (q4, .inl (cA, 8, .inl (fun _ => 0)))] := hD
  refine lv_aload_n hx hb d_F_init_44 rfl (lv_at hl 0 rfl) ?_
  refine lv_iconst (v := (0 : Int32)) hx hb d_F_init_45 (by decide) ?_
  refine va_put (D := (dC, dI)) (ci := 1) (v := .int (0 : Int32)) (ty := .int) (C := "FlashStore") (T := TF) (N := 6) hx hb hts inTF tyTF tyTF_ok nmTF hown hK hP hD hS 0 rfl rfl 5 (by decide) (hts _ (List.mem_cons_of_mem _ bq_1_46)) (fun _ h9 => h9) rfl (by decide +kernel) rfl rfl (Nat.le_of_ble_eq_true rfl) d_F_init_46 (fun H locs hP hD hS => ?_)
  have hP : va_P (dC, dI) vwCl [(h0, .inr (1, [.ref q1, .ref q2, .ref q3, .ref q4, .int (0 : Int32), .int (0 : Int32)])), (q1, .inr (0, [.ref q5, .ref q6])), (q5, .inl (cA, 80, .inl (kf_fill 80 (fun _ => 0) (2147483647 : Int32)))), (q6, .inl (cA, 4, .inl (fun _ => 0))), (q2, .inl (cA, 16, .inl (fun _ => 0))), (q3, .inl (cA, 8, .inl kz_f)), (q4, .inl (cA, 8, .inl (fun _ => 0)))] H := hP
  have hD : va_D A [(h0, .inr (1, [.ref q1, .ref q2, .ref q3, .ref q4, .int (0 : Int32), .int (0 : Int32)])), (q1, .inr (0, [.ref q5, .ref q6])), (q5, .inl (cA, 80, .inl (kf_fill 80 (fun _ => 0) (2147483647 : Int32)))), (q6, .inl (cA, 4, .inl (fun _ => 0))), (q2, .inl (cA, 16, .inl (fun _ => 0))), (q3, .inl (cA, 8, .inl kz_f)), (q4, .inl (cA, 8, .inl (fun _ => 0)))] := hD
  refine lv_aload_n hx hb d_F_init_49 rfl (lv_at hl 0 rfl) ?_
  refine va_get (D := (dC, dI)) (ci := 1) (v := .ref q2) (C := "FlashStore") (T := TF) (N := 6) hx hb hts inTF hown hK hP 0 rfl rfl 1 (by decide) (hts _ (List.mem_cons_of_mem _ bq_1_42)) (fun _ h9 => h9) rfl d_F_init_50 ?_
  refine lv_iconst (v := (0 : Int32)) hx hb d_F_init_53 (by decide) ?_
  have hPc := hP.sub (ws' := [(q2, .inl (cA, 16, .inl (fun _ => 0)))]) [4] rfl
  have hDc := hD.sub (ws' := [(q2, .inl (cA, 16, .inl (fun _ => 0)))]) [4] (by decide) rfl
  have hFc := va_free (wc := [(q2, .inl (cA, 16, .inl (fun _ => 0)))]) hD hS hA [4] rfl
  refine va_callv (va_runS (As := [.ref q2, .int (0 : Int32)]) (rest := []) ⟨hx, hb, hml, hown, hts⟩ (c_U_fill l dC dI cA q2 16 H.size (fun _ => 0) (0 : Int32) (by decide)) (va_cwS 2 hts (tg_S bq_1_40 bq_1_30 bq_1_3 bq_1_31) rfl rfl rfl (by decide +kernel) ⟨Nat.le_of_ble_eq_true rfl, Nat.le_of_ble_eq_true rfl⟩) ⟨tx_blW, tx_preW hPc hDc hK hNw⟩ rfl rfl hl.1 rfl (lv_room (Nat.le_of_ble_eq_true rfl)) d_F_init_54 ⟨Nat.le_of_ble_eq_true rfl, Nat.le_of_ble_eq_true rfl⟩) hS (fun q _ h => hFc q h) hFc (fun _u t H locs ht hvm hw hB hz1 hk1 hS => ?_)
  obtain ⟨hP1, hD1⟩ := hB
  rw [ht] at hP1
  obtain ⟨hP2, hD2⟩ := va_join (wr := [(h0, .inr (1, [.ref q1, .ref q2, .ref q3, .ref q4, .int (0 : Int32), .int (0 : Int32)])), (q1, .inr (0, [.ref q5, .ref q6])), (q5, .inl (cA, 80, .inl (kf_fill 80 (fun _ => 0) (2147483647 : Int32)))), (q6, .inl (cA, 4, .inl (fun _ => 0))), (q3, .inl (cA, 8, .inl kz_f)), (q4, .inl (cA, 8, .inl (fun _ => 0)))]) (w1 := [(q2, .inl (cA, 16, .inl (kf_fill 16 (fun _ => 0) (0 : Int32))))]) hP hD [4] [0, 1, 2, 3, 5, 6] rfl rfl (by decide) (by decide) hk1 hFc hP1 hD1
  have hP := hP2.sub (ws' := [(h0, .inr (1, [.ref q1, .ref q2, .ref q3, .ref q4, .int (0 : Int32), .int (0 : Int32)])), (q1, .inr (0, [.ref q5, .ref q6])), (q5, .inl (cA, 80, .inl (kf_fill 80 (fun _ => 0) (2147483647 : Int32)))), (q6, .inl (cA, 4, .inl (fun _ => 0))), (q2, .inl (cA, 16, .inl (kf_fill 16 (fun _ => 0) (0 : Int32)))), (q3, .inl (cA, 8, .inl kz_f)), (q4, .inl (cA, 8, .inl (fun _ => 0)))]) [0, 1, 2, 3, 6, 4, 5] rfl
  have hD := hD2.sub (ws' := [(h0, .inr (1, [.ref q1, .ref q2, .ref q3, .ref q4, .int (0 : Int32), .int (0 : Int32)])), (q1, .inr (0, [.ref q5, .ref q6])), (q5, .inl (cA, 80, .inl (kf_fill 80 (fun _ => 0) (2147483647 : Int32)))), (q6, .inl (cA, 4, .inl (fun _ => 0))), (q2, .inl (cA, 16, .inl (kf_fill 16 (fun _ => 0) (0 : Int32)))), (q3, .inl (cA, 8, .inl kz_f)), (q4, .inl (cA, 8, .inl (fun _ => 0)))]) [0, 1, 2, 3, 6, 4, 5] (by decide) rfl
  refine lv_aload_n hx hb d_F_init_57 rfl (lv_at hl 0 rfl) ?_
  refine va_get (D := (dC, dI)) (ci := 1) (v := .ref q3) (C := "FlashStore") (T := TF) (N := 6) hx hb hts inTF hown hK hP 0 rfl rfl 2 (by decide) (hts _ (List.mem_cons_of_mem _ bq_1_43)) (fun _ h9 => h9) rfl d_F_init_58 ?_
  refine lv_iconst (v := (-1 : Int32)) hx hb d_F_init_61 (by decide) ?_
  have hPc := hP.sub (ws' := [(q3, .inl (cA, 8, .inl kz_f))]) [5] rfl
  have hDc := hD.sub (ws' := [(q3, .inl (cA, 8, .inl kz_f))]) [5] (by decide) rfl
  have hFc := va_free (wc := [(q3, .inl (cA, 8, .inl kz_f))]) hD hS hA [5] rfl
  refine va_callv (va_runS (As := [.ref q3, .int (-1 : Int32)]) (rest := []) ⟨hx, hb, hml, hown, hts⟩ (c_U_fill l dC dI cA q3 8 H.size kz_f (-1 : Int32) (by decide)) (va_cwS 2 hts (tg_S bq_1_40 bq_1_30 bq_1_3 bq_1_31) rfl rfl rfl (by decide +kernel) ⟨Nat.le_of_ble_eq_true rfl, Nat.le_of_ble_eq_true rfl⟩) ⟨tx_blW, tx_preW hPc hDc hK hNw⟩ rfl rfl hl.1 rfl (lv_room (Nat.le_of_ble_eq_true rfl)) d_F_init_62 ⟨Nat.le_of_ble_eq_true rfl, Nat.le_of_ble_eq_true rfl⟩) hS (fun q _ h => hFc q h) hFc (fun _u t H locs ht hvm hw hB hz1 hk1 hS => ?_)
  obtain ⟨hP1, hD1⟩ := hB
  rw [ht] at hP1
  obtain ⟨hP2, hD2⟩ := va_join (wr := [(h0, .inr (1, [.ref q1, .ref q2, .ref q3, .ref q4, .int (0 : Int32), .int (0 : Int32)])), (q1, .inr (0, [.ref q5, .ref q6])), (q5, .inl (cA, 80, .inl (kf_fill 80 (fun _ => 0) (2147483647 : Int32)))), (q6, .inl (cA, 4, .inl (fun _ => 0))), (q2, .inl (cA, 16, .inl (kf_fill 16 (fun _ => 0) (0 : Int32)))), (q4, .inl (cA, 8, .inl (fun _ => 0)))]) (w1 := [(q3, .inl (cA, 8, .inl (kf_fill 8 kz_f (-1 : Int32))))]) hP hD [5] [0, 1, 2, 3, 4, 6] rfl rfl (by decide) (by decide) hk1 hFc hP1 hD1
  have hP := hP2.sub (ws' := [(h0, .inr (1, [.ref q1, .ref q2, .ref q3, .ref q4, .int (0 : Int32), .int (0 : Int32)])), (q1, .inr (0, [.ref q5, .ref q6])), (q5, .inl (cA, 80, .inl (kf_fill 80 (fun _ => 0) (2147483647 : Int32)))), (q6, .inl (cA, 4, .inl (fun _ => 0))), (q2, .inl (cA, 16, .inl (kf_fill 16 (fun _ => 0) (0 : Int32)))), (q3, .inl (cA, 8, .inl (kf_fill 8 kz_f (-1 : Int32)))), (q4, .inl (cA, 8, .inl (fun _ => 0)))]) [0, 1, 2, 3, 4, 6, 5] rfl
  have hD := hD2.sub (ws' := [(h0, .inr (1, [.ref q1, .ref q2, .ref q3, .ref q4, .int (0 : Int32), .int (0 : Int32)])), (q1, .inr (0, [.ref q5, .ref q6])), (q5, .inl (cA, 80, .inl (kf_fill 80 (fun _ => 0) (2147483647 : Int32)))), (q6, .inl (cA, 4, .inl (fun _ => 0))), (q2, .inl (cA, 16, .inl (kf_fill 16 (fun _ => 0) (0 : Int32)))), (q3, .inl (cA, 8, .inl (kf_fill 8 kz_f (-1 : Int32)))), (q4, .inl (cA, 8, .inl (fun _ => 0)))]) [0, 1, 2, 3, 4, 6, 5] (by decide) rfl
  have hP9 := hP.sub (ws' := (wF cA h0 q1 q2 q3 q4 q5 q6 (kf_fill 16 (fun _ => 0) (0 : Int32)) (kf_fill 8 kz_f (-1 : Int32)) (fun _ => 0) (kf_fill 80 (fun _ => 0) (2147483647 : Int32)) (fun _ => 0) (0 : Int32) (0 : Int32))) [0, 1, 4, 5, 6, 2, 3] rfl
  have hD9 := hD.sub (ws' := (wF cA h0 q1 q2 q3 q4 q5 q6 (kf_fill 16 (fun _ => 0) (0 : Int32)) (kf_fill 8 kz_f (-1 : Int32)) (fun _ => 0) (kf_fill 80 (fun _ => 0) (2147483647 : Int32)) (fun _ => 0) (0 : Int32) (0 : Int32))) [0, 1, 4, 5, 6, 2, 3] (by decide) rfl
  exact W.vret hx hb hr (fun t ht hW => ⟨⟨(), rfl, trivial, cA, q1, q2, q3, q4, q5, q6, by rw [ht]; exact hP9, va_K.moved hW.alike hK, hD9⟩, hS.F ht⟩) hS.2.2 d_F_init_65
abbrev rm_R_init : Room := { frames := 1, cells := 7, slots := 171, locals := 40 }
set_option maxHeartbeats 4000000 in
set_option maxRecDepth 100000 in
theorem c_R_init (l : Launch) (dC : Nat → ClassId) (dI : Nat → Nat → Nat) (h0 sz : Nat) : Met l y_R_init ws_R_init rm_R_init (tx_PW [.ref h0] (dC, dI) [] [(h0, .inr (2, [.int 0, .null, .null, .null, .null, .null, .null, .null, .int 0, .int 0, .int 0]))] sz) (va_Qv (S := Unit) (fun _ => True) (fun _ t => ∃ (cA : ClassId) (q1 q2 q3 q4 q5 q6 q7 : Nat) (rm : Nat → Int32), kR rm ∧ va_P (dC, dI) vwCl (wR cA h0 q1 q2 q3 q4 q5 q6 q7 rm (kf_fill 80 (fun _ => 0) (2147483647 : Int32)) (fun _ => 0) (fun _ => 0) (fun _ => 0) (fun _ => 0) (fun _ => 0) (0 : Int32) (0 : Int32) (0 : Int32) (0 : Int32)) t.heap ∧ va_K (dC, dI) vwCl [(cA, .int)] t ∧ va_D (va_A [(h0, .inr (2, [.int 0, .null, .null, .null, .null, .null, .null, .null, .int 0, .int 0, .int 0]))] sz) (wR cA h0 q1 q2 q3 q4 q5 q6 q7 rm (kf_fill 80 (fun _ => 0) (2147483647 : Int32)) (fun _ => 0) (fun _ => 0) (fun _ => 0) (fun _ => 0) (fun _ => 0) (0 : Int32) (0 : Int32) (0 : Int32) (0 : Int32))) (va_A [(h0, .inr (2, [.int 0, .null, .null, .null, .null, .null, .null, .null, .int 0, .int 0, .int 0]))] sz)) 7 171 (va_A [(h0, .inr (2, [.int 0, .null, .null, .null, .null, .null, .null, .null, .int 0, .int 0, .int 0]))] sz) := by
  refine Met.ofW (cc := b_R_init) (maxL := 3) (ret := none) (by decide +kernel) rfl ?_
  intro p e s m args below meth c s₁ B hml hv
  obtain ⟨hargs, hsz, hP, hK, hD0, hNw⟩ := hv
  have hx := B.exec
  have hb := B.bytes
  have hr := B.returns
  have hts := atoms_spec (ws := ws_R_init) B.pre
  have hown : s.vm.findClass "FlashStoreModel" = some m.cls := findClass_of_methodNamed B.named
  have hlocks := B.notSynchronized
  have hin : meth.name = "<init>" := (name_of_methodNamed B.named B.method).1
  subst hsz
  have hD := hD0.self (sz := s.heap.size)
  generalize hAe : va_A [(h0, .inr (2, [.int 0, .null, .null, .null, .null, .null, .null, .null, .int 0, .int 0, .int 0]))] s.heap.size = A at hD ⊢
  have hA : ∀ q : Nat, s.heap.size ≤ q → A q := fun q h => by rw [← hAe]; exact Or.inr h
  have hS : va_S A s.heap s.heap [] := va_S.rf
  have hP : va_P (dC, dI) vwCl [(h0, .inr (2, [.int 0, .null, .null, .null, .null, .null, .null, .null, .int 0, .int 0, .int 0]))] s.heap := hP
  have hl := lv_entry ([.ref h0]) (n := 3) (Nat.le_of_ble_eq_true rfl)
  have hen : entryFrame m args 3 = _ := (congrArg (fun z => entryFrame m z 3) hargs).trans (lg_entry_eq m ([.ref h0]) 3)
  refine W.eq hen ?_
  clear hen
  generalize (lg_sl ([.ref h0]) ++ List.replicate (3 - (lg_sl ([.ref h0])).length) Slot.unset).toArray = ls at hl ⊢
  have hl : lv_has ls 3 [(0, .ref h0)] := hl
  refine lv_aload_n hx hb d_R_init_0 rfl (lv_at hl 0 rfl) ?_
  refine W.objInit hx hb hown (hts _ (List.mem_cons_of_mem _ bq_2_189)) (hts _ (List.mem_cons_of_mem _ bq_1_20)) (hts _ (List.mem_cons_of_mem _ bq_1_21)) rfl (by rw [hml]; exact hl.1) rfl d_R_init_1 (Nat.le_of_ble_eq_true rfl) (Nat.le_of_ble_eq_true rfl) ?_
  refine W.eq (g2 := F0 m 4 ls []) rfl ?_
  refine lv_aload_n hx hb d_R_init_4 rfl (lv_at hl 0 rfl) ?_
  refine lv_bipush (v := (31 : Int32)) hx hb d_R_init_5 (by decide) ?_
  refine va_newa (atype := .int) (a0 := (31, .inl (fun _ => 0))) (N' := 31) (ty := .int) hx hb (hts _ (List.mem_cons_of_mem _ bq_1_39)) rfl hK hP hD hS hA (fun _ => rfl) (by decide) (by decide) (Nat.le_of_ble_eq_true rfl) (Nat.le_of_ble_eq_true rfl) (Nat.le_of_ble_eq_true rfl) d_R_init_7 (fun q1 cA H hK hP hD hS => ?_)
  have hK : va_K (dC, dI) vwCl [(cA, .int)] s := hK
  have hP : va_P (dC, dI) vwCl [(h0, .inr (2, [.int 0, .null, .null, .null, .null, .null, .null, .null, .int 0, .int 0, .int 0])), (q1, .inl (cA, 31, .inl (fun _ => 0)))] H := hP
  have hD : va_D A [(h0, .inr (2, [.int 0, .null, .null, .null, .null, .null, .null, .null, .int 0, .int 0, .int 0])), (q1, .inl (cA, 31, .inl (fun _ => 0)))] := hD
  refine W.widen (k := 1) (n := 31) (Nat.le_of_ble_eq_true rfl) (Nat.le_of_ble_eq_true rfl) ?_
  refine va_putF (D := (dC, dI)) (ci := 2) (v := .ref q1) (ty := .array .int) (C := "FlashStoreModel") (T := TR) (N := 11) hx hb hts inTR tyTR tyTR_ok nmTR hown hK hP hD hS 0 rfl rfl 1 (by decide) (hts _ (List.mem_cons_of_mem _ bq_2_193)) (fun _ h9 => h9) rfl hin rfl (by decide +kernel) rfl rfl (Nat.le_of_ble_eq_true rfl) d_R_init_9 (fun H locs hP hD hS => ?_)
  have hP : va_P (dC, dI) vwCl [(h0, .inr (2, [.int 0, .ref q1, .null, .null, .null, .null, .null, .null, .int 0, .int 0, .int 0])), (q1, .inl (cA, 31, .inl (fun _ => 0)))] H := hP
  have hD : va_D A [(h0, .inr (2, [.int 0, .ref q1, .null, .null, .null, .null, .null, .null, .int 0, .int 0, .int 0])), (q1, .inl (cA, 31, .inl (fun _ => 0)))] := hD
  refine lv_aload_n hx hb d_R_init_12 rfl (lv_at hl 0 rfl) ?_
  refine lv_bipush (v := (80 : Int32)) hx hb d_R_init_13 (by decide) ?_
  refine va_newa (atype := .int) (a0 := (80, .inl (fun _ => 0))) (N' := 80) (ty := .int) hx hb (hts _ (List.mem_cons_of_mem _ bq_1_39)) rfl hK hP hD hS hA (fun _ => rfl) (by decide) (by decide) (Nat.le_of_ble_eq_true rfl) (Nat.le_of_ble_eq_true rfl) (Nat.le_of_ble_eq_true rfl) d_R_init_15 (fun q2 cN H hK hP hD hS => ?_)
  obtain rfl : cA = cN := Option.some.inj ((va_nm_int (hK.2 0 _ rfl).2).symm.trans (va_nm_int (hK.2 1 _ rfl).2))
  have hK : va_K (dC, dI) vwCl [(cA, .int)] s := hK.sub [0] rfl
  have hP : va_P (dC, dI) vwCl [(h0, .inr (2, [.int 0, .ref q1, .null, .null, .null, .null, .null, .null, .int 0, .int 0, .int 0])), (q1, .inl (cA, 31, .inl (fun _ => 0))), (q2, .inl (cA, 80, .inl (fun _ => 0)))] H := hP
  have hD : va_D A [(h0, .inr (2, [.int 0, .ref q1, .null, .null, .null, .null, .null, .null, .int 0, .int 0, .int 0])), (q1, .inl (cA, 31, .inl (fun _ => 0))), (q2, .inl (cA, 80, .inl (fun _ => 0)))] := hD
  refine W.widen (k := 2) (n := 111) (Nat.le_of_ble_eq_true rfl) (Nat.le_of_ble_eq_true rfl) ?_
  refine va_putF (D := (dC, dI)) (ci := 2) (v := .ref q2) (ty := .array .int) (C := "FlashStoreModel") (T := TR) (N := 11) hx hb hts inTR tyTR tyTR_ok nmTR hown hK hP hD hS 0 rfl rfl 2 (by decide) (hts _ (List.mem_cons_of_mem _ bq_2_194)) (fun _ h9 => h9) rfl hin rfl (by decide +kernel) rfl rfl (Nat.le_of_ble_eq_true rfl) d_R_init_17 (fun H locs hP hD hS => ?_)
  have hP : va_P (dC, dI) vwCl [(h0, .inr (2, [.int 0, .ref q1, .ref q2, .null, .null, .null, .null, .null, .int 0, .int 0, .int 0])), (q1, .inl (cA, 31, .inl (fun _ => 0))), (q2, .inl (cA, 80, .inl (fun _ => 0)))] H := hP
  have hD : va_D A [(h0, .inr (2, [.int 0, .ref q1, .ref q2, .null, .null, .null, .null, .null, .int 0, .int 0, .int 0])), (q1, .inl (cA, 31, .inl (fun _ => 0))), (q2, .inl (cA, 80, .inl (fun _ => 0)))] := hD
  refine lv_aload_n hx hb d_R_init_20 rfl (lv_at hl 0 rfl) ?_
  refine lv_bipush (v := (16 : Int32)) hx hb d_R_init_21 (by decide) ?_
  refine va_newa (atype := .int) (a0 := (16, .inl (fun _ => 0))) (N' := 16) (ty := .int) hx hb (hts _ (List.mem_cons_of_mem _ bq_1_39)) rfl hK hP hD hS hA (fun _ => rfl) (by decide) (by decide) (Nat.le_of_ble_eq_true rfl) (Nat.le_of_ble_eq_true rfl) (Nat.le_of_ble_eq_true rfl) d_R_init_23 (fun q3 cN H hK hP hD hS => ?_)
  obtain rfl : cA = cN := Option.some.inj ((va_nm_int (hK.2 0 _ rfl).2).symm.trans (va_nm_int (hK.2 1 _ rfl).2))
  have hK : va_K (dC, dI) vwCl [(cA, .int)] s := hK.sub [0] rfl
  have hP : va_P (dC, dI) vwCl [(h0, .inr (2, [.int 0, .ref q1, .ref q2, .null, .null, .null, .null, .null, .int 0, .int 0, .int 0])), (q1, .inl (cA, 31, .inl (fun _ => 0))), (q2, .inl (cA, 80, .inl (fun _ => 0))), (q3, .inl (cA, 16, .inl (fun _ => 0)))] H := hP
  have hD : va_D A [(h0, .inr (2, [.int 0, .ref q1, .ref q2, .null, .null, .null, .null, .null, .int 0, .int 0, .int 0])), (q1, .inl (cA, 31, .inl (fun _ => 0))), (q2, .inl (cA, 80, .inl (fun _ => 0))), (q3, .inl (cA, 16, .inl (fun _ => 0)))] := hD
  refine W.widen (k := 3) (n := 127) (Nat.le_of_ble_eq_true rfl) (Nat.le_of_ble_eq_true rfl) ?_
  refine va_putF (D := (dC, dI)) (ci := 2) (v := .ref q3) (ty := .array .int) (C := "FlashStoreModel") (T := TR) (N := 11) hx hb hts inTR tyTR tyTR_ok nmTR hown hK hP hD hS 0 rfl rfl 3 (by decide) (hts _ (List.mem_cons_of_mem _ bq_2_195)) (fun _ h9 => h9) rfl hin rfl (by decide +kernel) rfl rfl (Nat.le_of_ble_eq_true rfl) d_R_init_25 (fun H locs hP hD hS => ?_)
  have hP : va_P (dC, dI) vwCl [(h0, .inr (2, [.int 0, .ref q1, .ref q2, .ref q3, .null, .null, .null, .null, .int 0, .int 0, .int 0])), (q1, .inl (cA, 31, .inl (fun _ => 0))), (q2, .inl (cA, 80, .inl (fun _ => 0))), (q3, .inl (cA, 16, .inl (fun _ => 0)))] H := hP
  have hD : va_D A [(h0, .inr (2, [.int 0, .ref q1, .ref q2, .ref q3, .null, .null, .null, .null, .int 0, .int 0, .int 0])), (q1, .inl (cA, 31, .inl (fun _ => 0))), (q2, .inl (cA, 80, .inl (fun _ => 0))), (q3, .inl (cA, 16, .inl (fun _ => 0)))] := hD
  refine lv_aload_n hx hb d_R_init_28 rfl (lv_at hl 0 rfl) ?_
  refine lv_bipush (v := (16 : Int32)) hx hb d_R_init_29 (by decide) ?_
  refine va_newa (atype := .int) (a0 := (16, .inl (fun _ => 0))) (N' := 16) (ty := .int) hx hb (hts _ (List.mem_cons_of_mem _ bq_1_39)) rfl hK hP hD hS hA (fun _ => rfl) (by decide) (by decide) (Nat.le_of_ble_eq_true rfl) (Nat.le_of_ble_eq_true rfl) (Nat.le_of_ble_eq_true rfl) d_R_init_31 (fun q4 cN H hK hP hD hS => ?_)
  obtain rfl : cA = cN := Option.some.inj ((va_nm_int (hK.2 0 _ rfl).2).symm.trans (va_nm_int (hK.2 1 _ rfl).2))
  have hK : va_K (dC, dI) vwCl [(cA, .int)] s := hK.sub [0] rfl
  have hP : va_P (dC, dI) vwCl [(h0, .inr (2, [.int 0, .ref q1, .ref q2, .ref q3, .null, .null, .null, .null, .int 0, .int 0, .int 0])), (q1, .inl (cA, 31, .inl (fun _ => 0))), (q2, .inl (cA, 80, .inl (fun _ => 0))), (q3, .inl (cA, 16, .inl (fun _ => 0))), (q4, .inl (cA, 16, .inl (fun _ => 0)))] H := hP
  have hD : va_D A [(h0, .inr (2, [.int 0, .ref q1, .ref q2, .ref q3, .null, .null, .null, .null, .int 0, .int 0, .int 0])), (q1, .inl (cA, 31, .inl (fun _ => 0))), (q2, .inl (cA, 80, .inl (fun _ => 0))), (q3, .inl (cA, 16, .inl (fun _ => 0))), (q4, .inl (cA, 16, .inl (fun _ => 0)))] := hD
  refine W.widen (k := 4) (n := 143) (Nat.le_of_ble_eq_true rfl) (Nat.le_of_ble_eq_true rfl) ?_
  refine va_putF (D := (dC, dI)) (ci := 2) (v := .ref q4) (ty := .array .int) (C := "FlashStoreModel") (T := TR) (N := 11) hx hb hts inTR tyTR tyTR_ok nmTR hown hK hP hD hS 0 rfl rfl 4 (by decide) (hts _ (List.mem_cons_of_mem _ bq_2_196)) (fun _ h9 => h9) rfl hin rfl (by decide +kernel) rfl rfl (Nat.le_of_ble_eq_true rfl) d_R_init_33 (fun H locs hP hD hS => ?_)
  have hP : va_P (dC, dI) vwCl [(h0, .inr (2, [.int 0, .ref q1, .ref q2, .ref q3, .ref q4, .null, .null, .null, .int 0, .int 0, .int 0])), (q1, .inl (cA, 31, .inl (fun _ => 0))), (q2, .inl (cA, 80, .inl (fun _ => 0))), (q3, .inl (cA, 16, .inl (fun _ => 0))), (q4, .inl (cA, 16, .inl (fun _ => 0)))] H := hP
  have hD : va_D A [(h0, .inr (2, [.int 0, .ref q1, .ref q2, .ref q3, .ref q4, .null, .null, .null, .int 0, .int 0, .int 0])), (q1, .inl (cA, 31, .inl (fun _ => 0))), (q2, .inl (cA, 80, .inl (fun _ => 0))), (q3, .inl (cA, 16, .inl (fun _ => 0))), (q4, .inl (cA, 16, .inl (fun _ => 0)))] := hD
  refine lv_aload_n hx hb d_R_init_36 rfl (lv_at hl 0 rfl) ?_
  refine lv_bipush (v := (16 : Int32)) hx hb d_R_init_37 (by decide) ?_
  refine va_newa (atype := .int) (a0 := (16, .inl (fun _ => 0))) (N' := 16) (ty := .int) hx hb (hts _ (List.mem_cons_of_mem _ bq_1_39)) rfl hK hP hD hS hA (fun _ => rfl) (by decide) (by decide) (Nat.le_of_ble_eq_true rfl) (Nat.le_of_ble_eq_true rfl) (Nat.le_of_ble_eq_true rfl) d_R_init_39 (fun q5 cN H hK hP hD hS => ?_)
  obtain rfl : cA = cN := Option.some.inj ((va_nm_int (hK.2 0 _ rfl).2).symm.trans (va_nm_int (hK.2 1 _ rfl).2))
  have hK : va_K (dC, dI) vwCl [(cA, .int)] s := hK.sub [0] rfl
  have hP : va_P (dC, dI) vwCl [(h0, .inr (2, [.int 0, .ref q1, .ref q2, .ref q3, .ref q4, .null, .null, .null, .int 0, .int 0, .int 0])), (q1, .inl (cA, 31, .inl (fun _ => 0))), (q2, .inl (cA, 80, .inl (fun _ => 0))), (q3, .inl (cA, 16, .inl (fun _ => 0))), (q4, .inl (cA, 16, .inl (fun _ => 0))), (q5, .inl (cA, 16, .inl (fun _ => 0)))] H := hP
  have hD : va_D A [(h0, .inr (2, [.int 0, .ref q1, .ref q2, .ref q3, .ref q4, .null, .null, .null, .int 0, .int 0, .int 0])), (q1, .inl (cA, 31, .inl (fun _ => 0))), (q2, .inl (cA, 80, .inl (fun _ => 0))), (q3, .inl (cA, 16, .inl (fun _ => 0))), (q4, .inl (cA, 16, .inl (fun _ => 0))), (q5, .inl (cA, 16, .inl (fun _ => 0)))] := hD
  refine W.widen (k := 5) (n := 159) (Nat.le_of_ble_eq_true rfl) (Nat.le_of_ble_eq_true rfl) ?_
  refine va_putF (D := (dC, dI)) (ci := 2) (v := .ref q5) (ty := .array .int) (C := "FlashStoreModel") (T := TR) (N := 11) hx hb hts inTR tyTR tyTR_ok nmTR hown hK hP hD hS 0 rfl rfl 5 (by decide) (hts _ (List.mem_cons_of_mem _ bq_2_197)) (fun _ h9 => h9) rfl hin rfl (by decide +kernel) rfl rfl (Nat.le_of_ble_eq_true rfl) d_R_init_41 (fun H locs hP hD hS => ?_)
  have hP : va_P (dC, dI) vwCl [(h0, .inr (2, [.int 0, .ref q1, .ref q2, .ref q3, .ref q4, .ref q5, .null, .null, .int 0, .int 0, .int 0])), (q1, .inl (cA, 31, .inl (fun _ => 0))), (q2, .inl (cA, 80, .inl (fun _ => 0))), (q3, .inl (cA, 16, .inl (fun _ => 0))), (q4, .inl (cA, 16, .inl (fun _ => 0))), (q5, .inl (cA, 16, .inl (fun _ => 0)))] H := hP
  have hD : va_D A [(h0, .inr (2, [.int 0, .ref q1, .ref q2, .ref q3, .ref q4, .ref q5, .null, .null, .int 0, .int 0, .int 0])), (q1, .inl (cA, 31, .inl (fun _ => 0))), (q2, .inl (cA, 80, .inl (fun _ => 0))), (q3, .inl (cA, 16, .inl (fun _ => 0))), (q4, .inl (cA, 16, .inl (fun _ => 0))), (q5, .inl (cA, 16, .inl (fun _ => 0)))] := hD
  refine lv_aload_n hx hb d_R_init_44 rfl (lv_at hl 0 rfl) ?_
  refine lv_iconst (v := (4 : Int32)) hx hb d_R_init_45 (by decide) ?_
  refine va_newa (atype := .int) (a0 := (4, .inl (fun _ => 0))) (N' := 4) (ty := .int) hx hb (hts _ (List.mem_cons_of_mem _ bq_1_39)) rfl hK hP hD hS hA (fun _ => rfl) (by decide) (by decide) (Nat.le_of_ble_eq_true rfl) (Nat.le_of_ble_eq_true rfl) (Nat.le_of_ble_eq_true rfl) d_R_init_46 (fun q6 cN H hK hP hD hS => ?_)
  obtain rfl : cA = cN := Option.some.inj ((va_nm_int (hK.2 0 _ rfl).2).symm.trans (va_nm_int (hK.2 1 _ rfl).2))
  have hK : va_K (dC, dI) vwCl [(cA, .int)] s := hK.sub [0] rfl
  have hP : va_P (dC, dI) vwCl [(h0, .inr (2, [.int 0, .ref q1, .ref q2, .ref q3, .ref q4, .ref q5, .null, .null, .int 0, .int 0, .int 0])), (q1, .inl (cA, 31, .inl (fun _ => 0))), (q2, .inl (cA, 80, .inl (fun _ => 0))), (q3, .inl (cA, 16, .inl (fun _ => 0))), (q4, .inl (cA, 16, .inl (fun _ => 0))), (q5, .inl (cA, 16, .inl (fun _ => 0))), (q6, .inl (cA, 4, .inl (fun _ => 0)))] H := hP
  have hD : va_D A [(h0, .inr (2, [.int 0, .ref q1, .ref q2, .ref q3, .ref q4, .ref q5, .null, .null, .int 0, .int 0, .int 0])), (q1, .inl (cA, 31, .inl (fun _ => 0))), (q2, .inl (cA, 80, .inl (fun _ => 0))), (q3, .inl (cA, 16, .inl (fun _ => 0))), (q4, .inl (cA, 16, .inl (fun _ => 0))), (q5, .inl (cA, 16, .inl (fun _ => 0))), (q6, .inl (cA, 4, .inl (fun _ => 0)))] := hD
  refine W.widen (k := 6) (n := 163) (Nat.le_of_ble_eq_true rfl) (Nat.le_of_ble_eq_true rfl) ?_
  refine va_putF (D := (dC, dI)) (ci := 2) (v := .ref q6) (ty := .array .int) (C := "FlashStoreModel") (T := TR) (N := 11) hx hb hts inTR tyTR tyTR_ok nmTR hown hK hP hD hS 0 rfl rfl 6 (by decide) (hts _ (List.mem_cons_of_mem _ bq_2_198)) (fun _ h9 => h9) rfl hin rfl (by decide +kernel) rfl rfl (Nat.le_of_ble_eq_true rfl) d_R_init_48 (fun H locs hP hD hS => ?_)
  have hP : va_P (dC, dI) vwCl [(h0, .inr (2, [.int 0, .ref q1, .ref q2, .ref q3, .ref q4, .ref q5, .ref q6, .null, .int 0, .int 0, .int 0])), (q1, .inl (cA, 31, .inl (fun _ => 0))), (q2, .inl (cA, 80, .inl (fun _ => 0))), (q3, .inl (cA, 16, .inl (fun _ => 0))), (q4, .inl (cA, 16, .inl (fun _ => 0))), (q5, .inl (cA, 16, .inl (fun _ => 0))), (q6, .inl (cA, 4, .inl (fun _ => 0)))] H := hP
  have hD : va_D A [(h0, .inr (2, [.int 0, .ref q1, .ref q2, .ref q3, .ref q4, .ref q5, .ref q6, .null, .int 0, .int 0, .int 0])), (q1, .inl (cA, 31, .inl (fun _ => 0))), (q2, .inl (cA, 80, .inl (fun _ => 0))), (q3, .inl (cA, 16, .inl (fun _ => 0))), (q4, .inl (cA, 16, .inl (fun _ => 0))), (q5, .inl (cA, 16, .inl (fun _ => 0))), (q6, .inl (cA, 4, .inl (fun _ => 0)))] := hD
  refine lv_aload_n hx hb d_R_init_51 rfl (lv_at hl 0 rfl) ?_
  refine lv_bipush (v := (8 : Int32)) hx hb d_R_init_52 (by decide) ?_
  refine va_newa (atype := .int) (a0 := (8, .inl (fun _ => 0))) (N' := 8) (ty := .int) hx hb (hts _ (List.mem_cons_of_mem _ bq_1_39)) rfl hK hP hD hS hA (fun _ => rfl) (by decide) (by decide) (Nat.le_of_ble_eq_true rfl) (Nat.le_of_ble_eq_true rfl) (Nat.le_of_ble_eq_true rfl) d_R_init_54 (fun q7 cN H hK hP hD hS => ?_)
  obtain rfl : cA = cN := Option.some.inj ((va_nm_int (hK.2 0 _ rfl).2).symm.trans (va_nm_int (hK.2 1 _ rfl).2))
  have hK : va_K (dC, dI) vwCl [(cA, .int)] s := hK.sub [0] rfl
  have hP : va_P (dC, dI) vwCl [(h0, .inr (2, [.int 0, .ref q1, .ref q2, .ref q3, .ref q4, .ref q5, .ref q6, .null, .int 0, .int 0, .int 0])), (q1, .inl (cA, 31, .inl (fun _ => 0))), (q2, .inl (cA, 80, .inl (fun _ => 0))), (q3, .inl (cA, 16, .inl (fun _ => 0))), (q4, .inl (cA, 16, .inl (fun _ => 0))), (q5, .inl (cA, 16, .inl (fun _ => 0))), (q6, .inl (cA, 4, .inl (fun _ => 0))), (q7, .inl (cA, 8, .inl (fun _ => 0)))] H := hP
  have hD : va_D A [(h0, .inr (2, [.int 0, .ref q1, .ref q2, .ref q3, .ref q4, .ref q5, .ref q6, .null, .int 0, .int 0, .int 0])), (q1, .inl (cA, 31, .inl (fun _ => 0))), (q2, .inl (cA, 80, .inl (fun _ => 0))), (q3, .inl (cA, 16, .inl (fun _ => 0))), (q4, .inl (cA, 16, .inl (fun _ => 0))), (q5, .inl (cA, 16, .inl (fun _ => 0))), (q6, .inl (cA, 4, .inl (fun _ => 0))), (q7, .inl (cA, 8, .inl (fun _ => 0)))] := hD
  refine W.widen (k := 7) (n := 171) (Nat.le_of_ble_eq_true rfl) (Nat.le_of_ble_eq_true rfl) ?_
  refine va_putF (D := (dC, dI)) (ci := 2) (v := .ref q7) (ty := .array .int) (C := "FlashStoreModel") (T := TR) (N := 11) hx hb hts inTR tyTR tyTR_ok nmTR hown hK hP hD hS 0 rfl rfl 7 (by decide) (hts _ (List.mem_cons_of_mem _ bq_2_199)) (fun _ h9 => h9) rfl hin rfl (by decide +kernel) rfl rfl (Nat.le_of_ble_eq_true rfl) d_R_init_56 (fun H locs hP hD hS => ?_)
  have hP : va_P (dC, dI) vwCl [(h0, .inr (2, [.int 0, .ref q1, .ref q2, .ref q3, .ref q4, .ref q5, .ref q6, .ref q7, .int 0, .int 0, .int 0])), (q1, .inl (cA, 31, .inl (fun _ => 0))), (q2, .inl (cA, 80, .inl (fun _ => 0))), (q3, .inl (cA, 16, .inl (fun _ => 0))), (q4, .inl (cA, 16, .inl (fun _ => 0))), (q5, .inl (cA, 16, .inl (fun _ => 0))), (q6, .inl (cA, 4, .inl (fun _ => 0))), (q7, .inl (cA, 8, .inl (fun _ => 0)))] H := hP
  have hD : va_D A [(h0, .inr (2, [.int 0, .ref q1, .ref q2, .ref q3, .ref q4, .ref q5, .ref q6, .ref q7, .int 0, .int 0, .int 0])), (q1, .inl (cA, 31, .inl (fun _ => 0))), (q2, .inl (cA, 80, .inl (fun _ => 0))), (q3, .inl (cA, 16, .inl (fun _ => 0))), (q4, .inl (cA, 16, .inl (fun _ => 0))), (q5, .inl (cA, 16, .inl (fun _ => 0))), (q6, .inl (cA, 4, .inl (fun _ => 0))), (q7, .inl (cA, 8, .inl (fun _ => 0)))] := hD
  generalize hQe : (MQ below _ args s 7 171 A) = Q
  have fin : ∀ (H : Heap) (locs : List Loc) (ls : Array Slot) (rm : Nat → Int32), kR rm → va_P (dC, dI) vwCl (wR cA h0 q1 q2 q3 q4 q5 q6 q7 rm (kf_fill 80 (fun _ => 0) (2147483647 : Int32)) (fun _ => 0) (fun _ => 0) (fun _ => 0) (fun _ => 0) (fun _ => 0) (0 : Int32) (0 : Int32) (0 : Int32) (0 : Int32)) H → va_D A (wR cA h0 q1 q2 q3 q4 q5 q6 q7 rm (kf_fill 80 (fun _ => 0) (2147483647 : Int32)) (fun _ => 0) (fun _ => 0) (fun _ => 0) (fun _ => 0) (fun _ => 0) (0 : Int32) (0 : Int32) (0 : Int32) (0 : Int32)) → va_S A s.heap H locs → W p l e (headSpec ws_R_init rm_R_init).room s m args below meth c H locs 7 171 Q (F0 m 120 ls []) := by
    intro H locs ls rm hr9 hP hD hS
    subst hQe
    exact W.vret hx hb hr (fun t ht hW => ⟨⟨(), rfl, trivial, cA, q1, q2, q3, q4, q5, q6, q7, rm, hr9, by rw [ht]; exact hP, va_K.moved hW.alike hK, hD⟩, hS.F ht⟩) hS.2.2 d_R_init_120
  have two : ∀ (j k : Nat) (H : Heap) (locs : List Loc) (ls : Array Slot) (rm : Nat → Int32), k + j = 80 → kR rm → va_P (dC, dI) vwCl (wR cA h0 q1 q2 q3 q4 q5 q6 q7 rm (kf_fill k (fun _ => 0) (2147483647 : Int32)) (fun _ => 0) (fun _ => 0) (fun _ => 0) (fun _ => 0) (fun _ => 0) (0 : Int32) (0 : Int32) (0 : Int32) (0 : Int32)) H → va_D A (wR cA h0 q1 q2 q3 q4 q5 q6 q7 rm (kf_fill k (fun _ => 0) (2147483647 : Int32)) (fun _ => 0) (fun _ => 0) (fun _ => 0) (fun _ => 0) (fun _ => 0) (0 : Int32) (0 : Int32) (0 : Int32) (0 : Int32)) → va_S A s.heap H locs → lv_has ls 3 [(2, .int (nI k)), (0, .ref h0)] → W p l e (headSpec ws_R_init rm_R_init).room s m args below meth c H locs 7 171 Q (F0 m 100 ls []) := by
    intro j
    induction j with
    | zero =>
      intro k H locs ls rm hk hr9 hP hD hS hl
      have : k = 80 := by omega
      subst this
      refine lv_iload_n hx hb d_R_init_100 rfl (lv_at hl 0 rfl) ?_
      refine lv_bipush (v := (80 : Int32)) hx hb d_R_init_101 (by decide) ?_
      refine lv_icmp_ge hx hb d_R_init_103 (tgt := 120) (by decide) (fun _ => ?_) (fun h => absurd (by decide) h)
      exact fin H locs ls rm hr9 hP hD hS
    | succ j ih =>
      intro k H locs ls rm hk hr9 hP hD hS hl
      refine lv_iload_n hx hb d_R_init_100 rfl (lv_at hl 0 rfl) ?_
      refine lv_bipush (v := (80 : Int32)) hx hb d_R_init_101 (by decide) ?_
      refine lv_icmp_ge hx hb d_R_init_103 (tgt := 120) (by decide) (fun h => absurd h (nI_ge (b := 80) (by omega) (by decide))) (fun _ => ?_)
      refine lv_aload_n hx hb d_R_init_106 rfl (lv_at hl 1 rfl) ?_
      refine va_get (D := (dC, dI)) (ci := 2) (v := .ref q2) (C := "FlashStoreModel") (T := TR) (N := 11) hx hb hts inTR hown hK hP 0 rfl rfl 2 (by decide) (hts _ (List.mem_cons_of_mem _ bq_2_194)) (fun _ h9 => h9) rfl d_R_init_107 ?_
      refine lv_iload_n hx hb d_R_init_110 rfl (lv_at hl 0 rfl) ?_
      refine lv_ldc hx hb hown (hts (.constant "FlashStoreModel" 32 (2147483647 : Int32)) (by decide +kernel)) d_R_init_111 ?_
      refine va_iast hx hb hK hP hD hS 2 0 rfl rfl (nI_in (by omega) (by decide)) d_R_init_113 (fun H locs hP hD hS => ?_)
      rw [nI_clamp (by omega), kf_fill_s] at hP hD
      have hP : va_P (dC, dI) vwCl (wR cA h0 q1 q2 q3 q4 q5 q6 q7 rm (kf_fill (k + 1) (fun _ => 0) (2147483647 : Int32)) (fun _ => 0) (fun _ => 0) (fun _ => 0) (fun _ => 0) (fun _ => 0) (0 : Int32) (0 : Int32) (0 : Int32) (0 : Int32)) H := hP
      have hD : va_D A (wR cA h0 q1 q2 q3 q4 q5 q6 q7 rm (kf_fill (k + 1) (fun _ => 0) (2147483647 : Int32)) (fun _ => 0) (fun _ => 0) (fun _ => 0) (fun _ => 0) (fun _ => 0) (0 : Int32) (0 : Int32) (0 : Int32) (0 : Int32)) := hD
      refine lv_iinc (k := 0) (v := (nI k + (1 : Int32))) hx hb d_R_init_114 hl rfl rfl (by decide) rfl (fun ls hl => ?_)
      have hl : lv_has ls 3 [(2, .int (nI (k + 1))), (0, .ref h0)] := by rw [← nI_1 k]; exact hl
      refine lv_goto hx hb d_R_init_117 (tgt := 100) (by decide) ?_
      exact ih (k + 1) _ _ _ rm (by omega) hr9 hP hD hS hl
  have one : ∀ (j k : Nat) (H : Heap) (locs : List Loc) (ls : Array Slot) (rm : Nat → Int32), k + j = 31 → (∀ i, i < k → rm i = nI (kc_t i)) → va_P (dC, dI) vwCl (wR cA h0 q1 q2 q3 q4 q5 q6 q7 rm (fun _ => 0) (fun _ => 0) (fun _ => 0) (fun _ => 0) (fun _ => 0) (fun _ => 0) (0 : Int32) (0 : Int32) (0 : Int32) (0 : Int32)) H → va_D A (wR cA h0 q1 q2 q3 q4 q5 q6 q7 rm (fun _ => 0) (fun _ => 0) (fun _ => 0) (fun _ => 0) (fun _ => 0) (fun _ => 0) (0 : Int32) (0 : Int32) (0 : Int32) (0 : Int32)) → va_S A s.heap H locs → lv_has ls 3 [(2, .int (nI k)), (1, .int (nI (kc_t k))), (0, .ref h0)] → W p l e (headSpec ws_R_init rm_R_init).room s m args below meth c H locs 7 171 Q (F0 m 63 ls []) := by
    intro j
    induction j with
    | zero =>
      intro k H locs ls rm hk hr9 hP hD hS hl
      have : k = 31 := by omega
      subst this
      refine lv_iload_n hx hb d_R_init_63 rfl (lv_at hl 0 rfl) ?_
      refine lv_bipush (v := (31 : Int32)) hx hb d_R_init_64 (by decide) ?_
      refine lv_icmp_ge hx hb d_R_init_66 (tgt := 98) (by decide) (fun _ => ?_) (fun h => absurd (by decide) h)
      refine lv_iconst (v := (0 : Int32)) hx hb d_R_init_98 (by decide) ?_
      refine lv_istore_n hx hb d_R_init_99 rfl hl (by decide) rfl (fun ls hl => ?_)
      refine two 80 0 _ _ _ rm (by decide) hr9 ?_ ?_ hS (lv_sub hl [0, 2] rfl)
      · rw [kf_fill_0]
        exact hP
      · rw [kf_fill_0]
        exact hD
    | succ j ih =>
      intro k H locs ls rm hk hr9 hP hD hS hl
      refine lv_iload_n hx hb d_R_init_63 rfl (lv_at hl 0 rfl) ?_
      refine lv_bipush (v := (31 : Int32)) hx hb d_R_init_64 (by decide) ?_
      refine lv_icmp_ge hx hb d_R_init_66 (tgt := 98) (by decide) (fun h => absurd h (nI_ge (b := 31) (by omega) (by decide))) (fun _ => ?_)
      refine lv_aload_n hx hb d_R_init_69 rfl (lv_at hl 2 rfl) ?_
      refine va_get (D := (dC, dI)) (ci := 2) (v := .ref q1) (C := "FlashStoreModel") (T := TR) (N := 11) hx hb hts inTR hown hK hP 0 rfl rfl 1 (by decide) (hts _ (List.mem_cons_of_mem _ bq_2_193)) (fun _ h9 => h9) rfl d_R_init_70 ?_
      refine lv_iload_n hx hb d_R_init_73 rfl (lv_at hl 0 rfl) ?_
      refine lv_iload_n hx hb d_R_init_74 rfl (lv_at hl 1 rfl) ?_
      refine va_iast hx hb hK hP hD hS 1 0 rfl rfl (nI_in (by omega) (by decide)) d_R_init_75 (fun H locs hP hD hS => ?_)
      rw [nI_clamp (by omega)] at hP hD
      have hP : va_P (dC, dI) vwCl (wR cA h0 q1 q2 q3 q4 q5 q6 q7 (upd rm k (nI (kc_t k))) (fun _ => 0) (fun _ => 0) (fun _ => 0) (fun _ => 0) (fun _ => 0) (fun _ => 0) (0 : Int32) (0 : Int32) (0 : Int32) (0 : Int32)) H := hP
      have hD : va_D A (wR cA h0 q1 q2 q3 q4 q5 q6 q7 (upd rm k (nI (kc_t k))) (fun _ => 0) (fun _ => 0) (fun _ => 0) (fun _ => 0) (fun _ => 0) (fun _ => 0) (0 : Int32) (0 : Int32) (0 : Int32) (0 : Int32)) := hD
      have hr9 : ∀ i, i < k + 1 → upd rm k (nI (kc_t k)) i = nI (kc_t i) := fun i hi => by
        by_cases e9 : i = k
        · rw [e9, pk_us]
        · rw [pk_un e9]
          exact hr9 i (by omega)
      refine lv_iconst (v := (2 : Int32)) hx hb d_R_init_76 (by decide) ?_
      refine lv_iload_n hx hb d_R_init_77 rfl (lv_at hl 1 rfl) ?_
      refine lv_imul hx hb d_R_init_78 ?_
      refine lv_istore_n hx hb d_R_init_79 rfl hl (by decide) rfl (fun ls hl => ?_)
      have ht9 := kc_t_lt k (by omega)
      have e2 : (2 : Int32) * nI (kc_t k) = nI (2 * kc_t k) := pk_mul 2 (kc_t k)
      have hl : lv_has ls 3 [(1, .int (nI (2 * kc_t k))), (2, .int (nI k)), (0, .ref h0)] := by rw [← e2]; exact hl
      have end9 : ∀ (ls : Array Slot), lv_has ls 3 [(1, .int (nI (kc_t (k + 1)))), (2, .int (nI k)), (0, .ref h0)] → W p l e (headSpec ws_R_init rm_R_init).room s m args below meth c H locs 7 171 Q (F0 m 92 ls []) := by
        intro ls hl
        refine lv_iinc (k := 1) (v := (nI k + (1 : Int32))) hx hb d_R_init_92 hl rfl rfl (by decide) rfl (fun ls hl => ?_)
        have hl : lv_has ls 3 [(2, .int (nI (k + 1))), (1, .int (nI (kc_t (k + 1)))), (0, .ref h0)] := by rw [← nI_1 k]; exact hl
        refine lv_goto hx hb d_R_init_95 (tgt := 63) (by decide) ?_
        exact ih (k + 1) _ _ _ _ (by omega) hr9 hP hD hS (lv_sub hl [0, 1, 2] rfl)
      refine lv_iload_n hx hb d_R_init_80 rfl (lv_at hl 0 rfl) ?_
      refine lv_sipush (v := (32767 : Int32)) hx hb d_R_init_81 (by decide) ?_
      refine lv_icmp_le hx hb d_R_init_84 (tgt := 92) (by decide) (fun h => ?_) (fun h => ?_)
      · refine end9 _ ?_
        have h9 : ¬ 2 * kc_t k > 32767 := fun e9 => nI_ge (a := 32767) e9 (by omega) h
        have h8 : kc_t (k + 1) = 2 * kc_t k := if_neg h9
        rw [h8]
        exact hl
      · refine lv_iload_n hx hb d_R_init_87 rfl (lv_at hl 0 rfl) ?_
        refine lv_ldc hx hb hown (hts (.constant "FlashStoreModel" 31 (36783 : Int32)) (by decide +kernel)) d_R_init_88 ?_
        refine lv_ixor hx hb d_R_init_90 ?_
        refine lv_istore_n hx hb d_R_init_91 rfl hl (by decide) rfl (fun ls hl => ?_)
        refine end9 _ ?_
        have h9 : 2 * kc_t k > 32767 := Classical.byContradiction (fun e9 => h (nI_le (b := 32767) (by omega) (by decide)))
        have h8 : kc_t (k + 1) = (2 * kc_t k) ^^^ 36783 := if_pos h9
        rw [h8, ← kn_xor]
        exact hl
  refine lv_iconst (v := (1 : Int32)) hx hb d_R_init_59 (by decide) ?_
  refine lv_istore_n hx hb d_R_init_60 rfl hl (by decide) rfl (fun ls hl => ?_)
  refine lv_iconst (v := (0 : Int32)) hx hb d_R_init_61 (by decide) ?_
  refine lv_istore_n hx hb d_R_init_62 rfl hl (by decide) rfl (fun ls hl => ?_)
  exact one 31 0 _ _ _ (fun _ => 0) (by decide) (fun i h => by omega) hP hD hS (lv_sub hl [0, 1, 2] rfl)
