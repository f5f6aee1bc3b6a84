section INIT
abbrev kz : Value := .int (Int32.ofInt 0)
abbrev ka (cA : ClassId) (n : Nat) : va_E := .inl (cA, n, .inl (fun _ => Int32.ofInt 0))
theorem kq_cAe {D : va_G} {cl : List vw_C} {s : State} {cA cB : ClassId} (h : va_K D cl ([(cA, .int)] ++ [(cB, .int)]) s) : cB = cA := by
  have h1 : s.vm.findClass ("[" ++ (FieldType.int).toString) = some cA := (h.2 0 (cA, .int) rfl).2
  have h2 : s.vm.findClass ("[" ++ (FieldType.int).toString) = some cB := (h.2 1 (cB, .int) rfl).2
  exact Option.some.inj (h2.symm.trans h1)
theorem oi_i : Cond.instanceMethod objectInit ∈ kq_tb := kq_m (i := 74) (by decide +kernel) rfl
theorem oi_c : Cond.code objectInit ⟨#[0xb1]⟩ 1 none ∈ kq_tb := kq_m (i := 75) (by decide +kernel) rfl
theorem ac_i : Cond.arrayClass .int ∈ kq_tb := kq_m (i := 135) (by decide +kernel) rfl
theorem in_X0 : Cond.instantiable RX0 12 ∈ kq_tb := kq_m (i := 77) (by decide +kernel) rfl
theorem iz_X0 : Cond.initialized RX0 ∈ kq_tb := kq_m (i := 61) (by decide +kernel) rfl
theorem im_X0 : Cond.instanceMethod yX0_init ∈ kq_tb := kq_m (i := 79) (by decide +kernel) rfl
theorem ic_X0 : Cond.code yX0_init cX0_init 1 none ∈ kq_tb := kq_m (i := 80) (by decide +kernel) rfl
theorem gi_X0 : GoodIn kq_tb (Cond.code yX0_init cX0_init 1 none :: kq_tb) := kq_goodIn (fun w hw => by
  rcases List.mem_cons.mp hw with rfl | h
  · exact ic_X0
  · exact h)
theorem in_X2 : Cond.instantiable RX2 2 ∈ kq_tb := kq_m (i := 137) (by decide +kernel) rfl
theorem iz_X2 : Cond.initialized RX2 ∈ kq_tb := kq_m (i := 62) (by decide +kernel) rfl
theorem im_X2 : Cond.instanceMethod yX2_init ∈ kq_tb := kq_m (i := 139) (by decide +kernel) rfl
theorem ic_X2 : Cond.code yX2_init cX2_init 1 none ∈ kq_tb := kq_m (i := 140) (by decide +kernel) rfl
theorem gi_X2 : GoodIn kq_tb (Cond.code yX2_init cX2_init 1 none :: kq_tb) := kq_goodIn (fun w hw => by
  rcases List.mem_cons.mp hw with rfl | h
  · exact ic_X2
  · exact h)
theorem in_X3 : Cond.instantiable RX3 2 ∈ kq_tb := kq_m (i := 151) (by decide +kernel) rfl
theorem iz_X3 : Cond.initialized RX3 ∈ kq_tb := kq_m (i := 63) (by decide +kernel) rfl
theorem im_X3 : Cond.instanceMethod yX3_init ∈ kq_tb := kq_m (i := 153) (by decide +kernel) rfl
theorem ic_X3 : Cond.code yX3_init cX3_init 1 none ∈ kq_tb := kq_m (i := 154) (by decide +kernel) rfl
theorem gi_X3 : GoodIn kq_tb (Cond.code yX3_init cX3_init 1 none :: kq_tb) := kq_goodIn (fun w hw => by
  rcases List.mem_cons.mp hw with rfl | h
  · exact ic_X3
  · exact h)
theorem in_X4 : Cond.instantiable RX4 9 ∈ kq_tb := kq_m (i := 69) (by decide +kernel) rfl
theorem iz_X4 : Cond.initialized RX4 ∈ kq_tb := kq_m (i := 60) (by decide +kernel) rfl
theorem im_X4 : Cond.instanceMethod yX4_init ∈ kq_tb := kq_m (i := 71) (by decide +kernel) rfl
theorem ic_X4 : Cond.code yX4_init cX4_init 1 none ∈ kq_tb := kq_m (i := 72) (by decide +kernel) rfl
theorem gi_X4 : GoodIn kq_tb (Cond.code yX4_init cX4_init 1 none :: kq_tb) := kq_goodIn (fun w hw => by
  rcases List.mem_cons.mp hw with rfl | h
  · exact ic_X4
  · exact h)
theorem in_X5 : Cond.instantiable RX5 14 ∈ kq_tb := kq_m (i := 681) (by decide +kernel) rfl
theorem iz_X5 : Cond.initialized RX5 ∈ kq_tb := kq_m (i := 64) (by decide +kernel) rfl
theorem im_X5 : Cond.instanceMethod yX5_init ∈ kq_tb := kq_m (i := 683) (by decide +kernel) rfl
theorem ic_X5 : Cond.code yX5_init cX5_init 1 none ∈ kq_tb := kq_m (i := 684) (by decide +kernel) rfl
theorem gi_X5 : GoodIn kq_tb (Cond.code yX5_init cX5_init 1 none :: kq_tb) := kq_goodIn (fun w hw => by
  rcases List.mem_cons.mp hw with rfl | h
  · exact ic_X5
  · exact h)
theorem ol_X0 : Cond.methodLink RX0 3 objectInit ∈ kq_tb := kq_m (i := 81) (by decide +kernel) rfl
theorem fk_X0_9 : Cond.fieldLink RX0 9 (TX0 0).1 (TX0 0).2.1 (TX0 0).2.2.1 ∈ kq_tb := kq_m (i := 82) (by decide +kernel) rfl
theorem fk_X0_15 : Cond.fieldLink RX0 15 (TX0 1).1 (TX0 1).2.1 (TX0 1).2.2.1 ∈ kq_tb := kq_m (i := 85) (by decide +kernel) rfl
theorem fk_X0_19 : Cond.fieldLink RX0 19 (TX0 2).1 (TX0 2).2.1 (TX0 2).2.2.1 ∈ kq_tb := kq_m (i := 87) (by decide +kernel) rfl
theorem fk_X0_22 : Cond.fieldLink RX0 22 (TX0 3).1 (TX0 3).2.1 (TX0 3).2.2.1 ∈ kq_tb := kq_m (i := 89) (by decide +kernel) rfl
theorem fk_X0_25 : Cond.fieldLink RX0 25 (TX0 4).1 (TX0 4).2.1 (TX0 4).2.2.1 ∈ kq_tb := kq_m (i := 92) (by decide +kernel) rfl
theorem fk_X0_28 : Cond.fieldLink RX0 28 (TX0 5).1 (TX0 5).2.1 (TX0 5).2.2.1 ∈ kq_tb := kq_m (i := 95) (by decide +kernel) rfl
theorem fk_X0_31 : Cond.fieldLink RX0 31 (TX0 6).1 (TX0 6).2.1 (TX0 6).2.2.1 ∈ kq_tb := kq_m (i := 97) (by decide +kernel) rfl
theorem fk_X0_34 : Cond.fieldLink RX0 34 (TX0 7).1 (TX0 7).2.1 (TX0 7).2.2.1 ∈ kq_tb := kq_m (i := 99) (by decide +kernel) rfl
theorem fk_X0_37 : Cond.fieldLink RX0 37 (TX0 8).1 (TX0 8).2.1 (TX0 8).2.2.1 ∈ kq_tb := kq_m (i := 101) (by decide +kernel) rfl
theorem fk_X0_40 : Cond.fieldLink RX0 40 (TX0 9).1 (TX0 9).2.1 (TX0 9).2.2.1 ∈ kq_tb := kq_m (i := 103) (by decide +kernel) rfl
theorem fk_X0_43 : Cond.fieldLink RX0 43 (TX0 10).1 (TX0 10).2.1 (TX0 10).2.2.1 ∈ kq_tb := kq_m (i := 105) (by decide +kernel) rfl
theorem fk_X0_46 : Cond.fieldLink RX0 46 (TX0 11).1 (TX0 11).2.1 (TX0 11).2.2.1 ∈ kq_tb := kq_m (i := 107) (by decide +kernel) rfl
set_option maxHeartbeats 4000000 in
set_option maxRecDepth 100000 in
theorem c_X0_init (l : Launch) (D : va_G) (cA : ClassId) (h0 sz : Nat) : Met l yX0_init (Cond.code yX0_init cX0_init 1 none :: kq_tb) ({ frames := 1, cells := 9, slots := 72, locals := 12 }) (va_Pc [.ref h0] (fun U => U.heap.size = sz ∧ va_P D vwCl [(h0, .inr (0, [kz, .null, .null, .null, .null, .null, .null, kz, .null, .null, .null, kz]))] U.heap ∧ va_K D vwCl [(cA, .int)] U ∧ va_D (fun _ => True) [(h0, .inr (0, [kz, .null, .null, .null, .null, .null, .null, kz, .null, .null, .null, kz]))])) (va_Qv (fun _ : Unit => True) (fun _ t => ∃ (q1 q2 q3 q4 q5 q6 q7 q8 q9 : Nat), va_P D vwCl [(h0, .inr (0, [kz, .ref q1, .ref q2, .ref q3, .ref q4, .ref q5, .ref q6, kz, .ref q7, .ref q8, .ref q9, kz])), (q1, ka cA 9), (q2, ka cA 9), (q3, ka cA 9), (q4, ka cA 9), (q5, ka cA 9), (q6, ka cA 9), (q7, ka cA 6), (q8, ka cA 6), (q9, ka cA 6)] t.heap ∧ va_D (va_A [(h0, .inr (0, [kz, .null, .null, .null, .null, .null, .null, kz, .null, .null, .null, kz]))] sz) [(h0, .inr (0, [kz, .ref q1, .ref q2, .ref q3, .ref q4, .ref q5, .ref q6, kz, .ref q7, .ref q8, .ref q9, kz])), (q1, ka cA 9), (q2, ka cA 9), (q3, ka cA 9), (q4, ka cA 9), (q5, ka cA 9), (q6, ka cA 9), (q7, ka cA 6), (q8, ka cA 6), (q9, ka cA 6)]) (va_A [(h0, .inr (0, [kz, .null, .null, .null, .null, .null, .null, kz, .null, .null, .null, kz]))] sz)) 9 72 (va_A [(h0, .inr (0, [kz, .null, .null, .null, .null, .null, .null, kz, .null, .null, .null, kz]))] sz) := by
  refine Met.ofW (cc := cX0_init) (maxL := 1) (ret := none) (by decide) rfl ?_
  intro p e s m args below meth c s₁ B hml hv
  obtain ⟨rfl, hsz, hP, hK, hD0⟩ := hv
  have hx := B.exec
  have hb := B.bytes
  have hr := B.returns
  have hts0 := atoms_spec (ws := Cond.code yX0_init cX0_init 1 none :: kq_tb) B.pre
  have hts : ∀ w ∈ kq_tb, w.before _ s = true := fun w hw => hts0 w (List.mem_cons_of_mem _ hw)
  have hown : s.vm.findClass RX0 = some m.cls := findClass_of_methodNamed B.named
  have hlocks := B.notSynchronized
  have hin : meth.name = "<init>" := (name_of_methodNamed B.named B.method).1
  subst hsz
  have hD := hD0.self (sz := s.heap.size)
  generalize hAe : va_A [(h0, .inr (0, [kz, .null, .null, .null, .null, .null, .null, kz, .null, .null, .null, kz]))] s.heap.size = A at hD ⊢
  have hA : ∀ q : Nat, s.heap.size ≤ q → A q := fun q h => by rw [← hAe]; exact Or.inr h
  have hS : va_S A s.heap s.heap [] := va_S.rf
  have hP : va_P D vwCl [(h0, .inr (0, [kz, .null, .null, .null, .null, .null, .null, kz, .null, .null, .null, kz]))] s.heap := hP
  have hl := lv_entry ([.ref h0]) (n := 1) (Nat.le_of_ble_eq_true rfl)
  rw [lg_entry_eq]
  generalize (lg_sl ([.ref h0]) ++ List.replicate (1 - (lg_sl ([.ref h0])).length) Slot.unset).toArray = ls at hl ⊢
  have hl : lv_has ls 1 [(0, .ref h0)] := hl
  refine lv_aload_n hx hb dX0_init_0 rfl (lv_at hl 0 rfl) ?_
  refine W.objInit hx hb hown (hts _ ol_X0) (hts _ oi_i) (hts _ oi_c) rfl (by rw [hml]; exact hl.1) rfl dX0_init_1 (Nat.le_of_ble_eq_true rfl) (Nat.le_of_ble_eq_true rfl) ?_
  refine W.eq (g2 := F0 m 4 ls []) rfl ?_
  refine lv_aload_n hx hb dX0_init_4 rfl (lv_at hl 0 rfl) ?_
  refine lv_iconst (v := Int32.ofInt 0) hx hb dX0_init_5 rfl ?_
  refine va_put (D := D) (ci := 0) (v := kz) (ty := .int) (C := RX0) (T := TX0) (N := 12) hx hb hts cf_X0.2.1 tyX0 tyX0_ok nmX0 hown hK hP hD hS 0 rfl rfl 0 (by decide) (hts _ fk_X0_9) (fun _ h9 => h9) rfl (by decide +kernel) rfl rfl (Nat.le_of_ble_eq_true rfl) dX0_init_6 (fun H locs hP hD hS => ?_)
  have hP : va_P D vwCl [(h0, .inr (0, [kz, .null, .null, .null, .null, .null, .null, kz, .null, .null, .null, kz]))] H := hP
  have hD : va_D A [(h0, .inr (0, [kz, .null, .null, .null, .null, .null, .null, kz, .null, .null, .null, kz]))] := hD
  refine lv_aload_n hx hb dX0_init_9 rfl (lv_at hl 0 rfl) ?_
  refine lv_bipush (v := 9) hx hb dX0_init_10 (by decide) ?_
  refine va_newa (n := 9) (N' := 9) (a0 := (9, .inl (fun _ => Int32.ofInt 0))) hx hb (hts _ ac_i) rfl hK hP hD hS hA (fun _ => rfl) (by decide) (by decide) (by decide) (Nat.le_of_ble_eq_true rfl) (Nat.le_of_ble_eq_true rfl) dX0_init_12 (fun q1 cB H hKb hP hD hS => ?_)
  rw [kq_cAe hKb] at hP hD
  have hP : va_P D vwCl [(h0, .inr (0, [kz, .null, .null, .null, .null, .null, .null, kz, .null, .null, .null, kz])), (q1, ka cA 9)] H := hP
  have hD : va_D A [(h0, .inr (0, [kz, .null, .null, .null, .null, .null, .null, kz, .null, .null, .null, kz])), (q1, ka cA 9)] := hD
  refine W.widen (k := 1) (n := 9) (by omega) (by omega) ?_
  refine va_putF (D := D) (ci := 0) (v := .ref q1) (ty := (.array .int)) (C := RX0) (T := TX0) (N := 12) hx hb hts cf_X0.2.1 tyX0 tyX0_ok nmX0 hown hK hP hD hS 0 rfl rfl 1 (by decide) (hts _ fk_X0_15) (fun _ h9 => h9) rfl hin rfl (by decide +kernel) rfl rfl (Nat.le_of_ble_eq_true rfl) dX0_init_14 (fun H locs hP hD hS => ?_)
  have hP : va_P D vwCl [(h0, .inr (0, [kz, .ref q1, .null, .null, .null, .null, .null, kz, .null, .null, .null, kz])), (q1, ka cA 9)] H := hP
  have hD : va_D A [(h0, .inr (0, [kz, .ref q1, .null, .null, .null, .null, .null, kz, .null, .null, .null, kz])), (q1, ka cA 9)] := hD
  refine lv_aload_n hx hb dX0_init_17 rfl (lv_at hl 0 rfl) ?_
  refine lv_bipush (v := 9) hx hb dX0_init_18 (by decide) ?_
  refine va_newa (n := 9) (N' := 9) (a0 := (9, .inl (fun _ => Int32.ofInt 0))) hx hb (hts _ ac_i) rfl hK hP hD hS hA (fun _ => rfl) (by decide) (by decide) (by decide) (Nat.le_of_ble_eq_true rfl) (Nat.le_of_ble_eq_true rfl) dX0_init_20 (fun q2 cB H hKb hP hD hS => ?_)
  rw [kq_cAe hKb] at hP hD
  have hP : va_P D vwCl [(h0, .inr (0, [kz, .ref q1, .null, .null, .null, .null, .null, kz, .null, .null, .null, kz])), (q1, ka cA 9), (q2, ka cA 9)] H := hP
  have hD : va_D A [(h0, .inr (0, [kz, .ref q1, .null, .null, .null, .null, .null, kz, .null, .null, .null, kz])), (q1, ka cA 9), (q2, ka cA 9)] := hD
  refine W.widen (k := 2) (n := 18) (by omega) (by omega) ?_
  refine va_putF (D := D) (ci := 0) (v := .ref q2) (ty := (.array .int)) (C := RX0) (T := TX0) (N := 12) hx hb hts cf_X0.2.1 tyX0 tyX0_ok nmX0 hown hK hP hD hS 0 rfl rfl 2 (by decide) (hts _ fk_X0_19) (fun _ h9 => h9) rfl hin rfl (by decide +kernel) rfl rfl (Nat.le_of_ble_eq_true rfl) dX0_init_22 (fun H locs hP hD hS => ?_)
  have hP : va_P D vwCl [(h0, .inr (0, [kz, .ref q1, .ref q2, .null, .null, .null, .null, kz, .null, .null, .null, kz])), (q1, ka cA 9), (q2, ka cA 9)] H := hP
  have hD : va_D A [(h0, .inr (0, [kz, .ref q1, .ref q2, .null, .null, .null, .null, kz, .null, .null, .null, kz])), (q1, ka cA 9), (q2, ka cA 9)] := hD
  refine lv_aload_n hx hb dX0_init_25 rfl (lv_at hl 0 rfl) ?_
  refine lv_bipush (v := 9) hx hb dX0_init_26 (by decide) ?_
  refine va_newa (n := 9) (N' := 9) (a0 := (9, .inl (fun _ => Int32.ofInt 0))) hx hb (hts _ ac_i) rfl hK hP hD hS hA (fun _ => rfl) (by decide) (by decide) (by decide) (Nat.le_of_ble_eq_true rfl) (Nat.le_of_ble_eq_true rfl) dX0_init_28 (fun q3 cB H hKb hP hD hS => ?_)
  rw [kq_cAe hKb] at hP hD
  have hP : va_P D vwCl [(h0, .inr (0, [kz, .ref q1, .ref q2, .null, .null, .null, .null, kz, .null, .null, .null, kz])), (q1, ka cA 9), (q2, ka cA 9), (q3, ka cA 9)] H := hP
  have hD : va_D A [(h0, .inr (0, [kz, .ref q1, .ref q2, .null, .null, .null, .null, kz, .null, .null, .null, kz])), (q1, ka cA 9), (q2, ka cA 9), (q3, ka cA 9)] := hD
  refine W.widen (k := 3) (n := 27) (by omega) (by omega) ?_
  refine va_putF (D := D) (ci := 0) (v := .ref q3) (ty := (.array .int)) (C := RX0) (T := TX0) (N := 12) hx hb hts cf_X0.2.1 tyX0 tyX0_ok nmX0 hown hK hP hD hS 0 rfl rfl 3 (by decide) (hts _ fk_X0_22) (fun _ h9 => h9) rfl hin rfl (by decide +kernel) rfl rfl (Nat.le_of_ble_eq_true rfl) dX0_init_30 (fun H locs hP hD hS => ?_)
  have hP : va_P D vwCl [(h0, .inr (0, [kz, .ref q1, .ref q2, .ref q3, .null, .null, .null, kz, .null, .null, .null, kz])), (q1, ka cA 9), (q2, ka cA 9), (q3, ka cA 9)] H := hP
  have hD : va_D A [(h0, .inr (0, [kz, .ref q1, .ref q2, .ref q3, .null, .null, .null, kz, .null, .null, .null, kz])), (q1, ka cA 9), (q2, ka cA 9), (q3, ka cA 9)] := hD
  refine lv_aload_n hx hb dX0_init_33 rfl (lv_at hl 0 rfl) ?_
  refine lv_bipush (v := 9) hx hb dX0_init_34 (by decide) ?_
  refine va_newa (n := 9) (N' := 9) (a0 := (9, .inl (fun _ => Int32.ofInt 0))) hx hb (hts _ ac_i) rfl hK hP hD hS hA (fun _ => rfl) (by decide) (by decide) (by decide) (Nat.le_of_ble_eq_true rfl) (Nat.le_of_ble_eq_true rfl) dX0_init_36 (fun q4 cB H hKb hP hD hS => ?_)
  rw [kq_cAe hKb] at hP hD
  have hP : va_P D vwCl [(h0, .inr (0, [kz, .ref q1, .ref q2, .ref q3, .null, .null, .null, kz, .null, .null, .null, kz])), (q1, ka cA 9), (q2, ka cA 9), (q3, ka cA 9), (q4, ka cA 9)] H := hP
  have hD : va_D A [(h0, .inr (0, [kz, .ref q1, .ref q2, .ref q3, .null, .null, .null, kz, .null, .null, .null, kz])), (q1, ka cA 9), (q2, ka cA 9), (q3, ka cA 9), (q4, ka cA 9)] := hD
  refine W.widen (k := 4) (n := 36) (by omega) (by omega) ?_
  refine va_putF (D := D) (ci := 0) (v := .ref q4) (ty := (.array .int)) (C := RX0) (T := TX0) (N := 12) hx hb hts cf_X0.2.1 tyX0 tyX0_ok nmX0 hown hK hP hD hS 0 rfl rfl 4 (by decide) (hts _ fk_X0_25) (fun _ h9 => h9) rfl hin rfl (by decide +kernel) rfl rfl (Nat.le_of_ble_eq_true rfl) dX0_init_38 (fun H locs hP hD hS => ?_)
  have hP : va_P D vwCl [(h0, .inr (0, [kz, .ref q1, .ref q2, .ref q3, .ref q4, .null, .null, kz, .null, .null, .null, kz])), (q1, ka cA 9), (q2, ka cA 9), (q3, ka cA 9), (q4, ka cA 9)] H := hP
  have hD : va_D A [(h0, .inr (0, [kz, .ref q1, .ref q2, .ref q3, .ref q4, .null, .null, kz, .null, .null, .null, kz])), (q1, ka cA 9), (q2, ka cA 9), (q3, ka cA 9), (q4, ka cA 9)] := hD
  refine lv_aload_n hx hb dX0_init_41 rfl (lv_at hl 0 rfl) ?_
  refine lv_bipush (v := 9) hx hb dX0_init_42 (by decide) ?_
  refine va_newa (n := 9) (N' := 9) (a0 := (9, .inl (fun _ => Int32.ofInt 0))) hx hb (hts _ ac_i) rfl hK hP hD hS hA (fun _ => rfl) (by decide) (by decide) (by decide) (Nat.le_of_ble_eq_true rfl) (Nat.le_of_ble_eq_true rfl) dX0_init_44 (fun q5 cB H hKb hP hD hS => ?_)
  rw [kq_cAe hKb] at hP hD
  have hP : va_P D vwCl [(h0, .inr (0, [kz, .ref q1, .ref q2, .ref q3, .ref q4, .null, .null, kz, .null, .null, .null, kz])), (q1, ka cA 9), (q2, ka cA 9), (q3, ka cA 9), (q4, ka cA 9), (q5, ka cA 9)] H := hP
  have hD : va_D A [(h0, .inr (0, [kz, .ref q1, .ref q2, .ref q3, .ref q4, .null, .null, kz, .null, .null, .null, kz])), (q1, ka cA 9), (q2, ka cA 9), (q3, ka cA 9), (q4, ka cA 9), (q5, ka cA 9)] := hD
  refine W.widen (k := 5) (n := 45) (by omega) (by omega) ?_
  refine va_putF (D := D) (ci := 0) (v := .ref q5) (ty := (.array .int)) (C := RX0) (T := TX0) (N := 12) hx hb hts cf_X0.2.1 tyX0 tyX0_ok nmX0 hown hK hP hD hS 0 rfl rfl 5 (by decide) (hts _ fk_X0_28) (fun _ h9 => h9) rfl hin rfl (by decide +kernel) rfl rfl (Nat.le_of_ble_eq_true rfl) dX0_init_46 (fun H locs hP hD hS => ?_)
  have hP : va_P D vwCl [(h0, .inr (0, [kz, .ref q1, .ref q2, .ref q3, .ref q4, .ref q5, .null, kz, .null, .null, .null, kz])), (q1, ka cA 9), (q2, ka cA 9), (q3, ka cA 9), (q4, ka cA 9), (q5, ka cA 9)] H := hP
  have hD : va_D A [(h0, .inr (0, [kz, .ref q1, .ref q2, .ref q3, .ref q4, .ref q5, .null, kz, .null, .null, .null, kz])), (q1, ka cA 9), (q2, ka cA 9), (q3, ka cA 9), (q4, ka cA 9), (q5, ka cA 9)] := hD
  refine lv_aload_n hx hb dX0_init_49 rfl (lv_at hl 0 rfl) ?_
  refine lv_bipush (v := 9) hx hb dX0_init_50 (by decide) ?_
  refine va_newa (n := 9) (N' := 9) (a0 := (9, .inl (fun _ => Int32.ofInt 0))) hx hb (hts _ ac_i) rfl hK hP hD hS hA (fun _ => rfl) (by decide) (by decide) (by decide) (Nat.le_of_ble_eq_true rfl) (Nat.le_of_ble_eq_true rfl) dX0_init_52 (fun q6 cB H hKb hP hD hS => ?_)
  rw [kq_cAe hKb] at hP hD
  have hP : va_P D vwCl [(h0, .inr (0, [kz, .ref q1, .ref q2, .ref q3, .ref q4, .ref q5, .null, kz, .null, .null, .null, kz])), (q1, ka cA 9), (q2, ka cA 9), (q3, ka cA 9), (q4, ka cA 9), (q5, ka cA 9), (q6, ka cA 9)] H := hP
  have hD : va_D A [(h0, .inr (0, [kz, .ref q1, .ref q2, .ref q3, .ref q4, .ref q5, .null, kz, .null, .null, .null, kz])), (q1, ka cA 9), (q2, ka cA 9), (q3, ka cA 9), (q4, ka cA 9), (q5, ka cA 9), (q6, ka cA 9)] := hD
  refine W.widen (k := 6) (n := 54) (by omega) (by omega) ?_
  refine va_putF (D := D) (ci := 0) (v := .ref q6) (ty := (.array .int)) (C := RX0) (T := TX0) (N := 12) hx hb hts cf_X0.2.1 tyX0 tyX0_ok nmX0 hown hK hP hD hS 0 rfl rfl 6 (by decide) (hts _ fk_X0_31) (fun _ h9 => h9) rfl hin rfl (by decide +kernel) rfl rfl (Nat.le_of_ble_eq_true rfl) dX0_init_54 (fun H locs hP hD hS => ?_)
  have hP : va_P D vwCl [(h0, .inr (0, [kz, .ref q1, .ref q2, .ref q3, .ref q4, .ref q5, .ref q6, kz, .null, .null, .null, kz])), (q1, ka cA 9), (q2, ka cA 9), (q3, ka cA 9), (q4, ka cA 9), (q5, ka cA 9), (q6, ka cA 9)] H := hP
  have hD : va_D A [(h0, .inr (0, [kz, .ref q1, .ref q2, .ref q3, .ref q4, .ref q5, .ref q6, kz, .null, .null, .null, kz])), (q1, ka cA 9), (q2, ka cA 9), (q3, ka cA 9), (q4, ka cA 9), (q5, ka cA 9), (q6, ka cA 9)] := hD
  refine lv_aload_n hx hb dX0_init_57 rfl (lv_at hl 0 rfl) ?_
  refine lv_iconst (v := Int32.ofInt 0) hx hb dX0_init_58 rfl ?_
  refine va_put (D := D) (ci := 0) (v := kz) (ty := .int) (C := RX0) (T := TX0) (N := 12) hx hb hts cf_X0.2.1 tyX0 tyX0_ok nmX0 hown hK hP hD hS 0 rfl rfl 7 (by decide) (hts _ fk_X0_34) (fun _ h9 => h9) rfl (by decide +kernel) rfl rfl (Nat.le_of_ble_eq_true rfl) dX0_init_59 (fun H locs hP hD hS => ?_)
  have hP : va_P D vwCl [(h0, .inr (0, [kz, .ref q1, .ref q2, .ref q3, .ref q4, .ref q5, .ref q6, kz, .null, .null, .null, kz])), (q1, ka cA 9), (q2, ka cA 9), (q3, ka cA 9), (q4, ka cA 9), (q5, ka cA 9), (q6, ka cA 9)] H := hP
  have hD : va_D A [(h0, .inr (0, [kz, .ref q1, .ref q2, .ref q3, .ref q4, .ref q5, .ref q6, kz, .null, .null, .null, kz])), (q1, ka cA 9), (q2, ka cA 9), (q3, ka cA 9), (q4, ka cA 9), (q5, ka cA 9), (q6, ka cA 9)] := hD
  refine lv_aload_n hx hb dX0_init_62 rfl (lv_at hl 0 rfl) ?_
  refine lv_bipush (v := 6) hx hb dX0_init_63 (by decide) ?_
  refine va_newa (n := 6) (N' := 6) (a0 := (6, .inl (fun _ => Int32.ofInt 0))) hx hb (hts _ ac_i) rfl hK hP hD hS hA (fun _ => rfl) (by decide) (by decide) (by decide) (Nat.le_of_ble_eq_true rfl) (Nat.le_of_ble_eq_true rfl) dX0_init_65 (fun q7 cB H hKb hP hD hS => ?_)
  rw [kq_cAe hKb] at hP hD
  have hP : va_P D vwCl [(h0, .inr (0, [kz, .ref q1, .ref q2, .ref q3, .ref q4, .ref q5, .ref q6, kz, .null, .null, .null, kz])), (q1, ka cA 9), (q2, ka cA 9), (q3, ka cA 9), (q4, ka cA 9), (q5, ka cA 9), (q6, ka cA 9), (q7, ka cA 6)] H := hP
  have hD : va_D A [(h0, .inr (0, [kz, .ref q1, .ref q2, .ref q3, .ref q4, .ref q5, .ref q6, kz, .null, .null, .null, kz])), (q1, ka cA 9), (q2, ka cA 9), (q3, ka cA 9), (q4, ka cA 9), (q5, ka cA 9), (q6, ka cA 9), (q7, ka cA 6)] := hD
  refine W.widen (k := 7) (n := 60) (by omega) (by omega) ?_
  refine va_putF (D := D) (ci := 0) (v := .ref q7) (ty := (.array .int)) (C := RX0) (T := TX0) (N := 12) hx hb hts cf_X0.2.1 tyX0 tyX0_ok nmX0 hown hK hP hD hS 0 rfl rfl 8 (by decide) (hts _ fk_X0_37) (fun _ h9 => h9) rfl hin rfl (by decide +kernel) rfl rfl (Nat.le_of_ble_eq_true rfl) dX0_init_67 (fun H locs hP hD hS => ?_)
  have hP : va_P D vwCl [(h0, .inr (0, [kz, .ref q1, .ref q2, .ref q3, .ref q4, .ref q5, .ref q6, kz, .ref q7, .null, .null, kz])), (q1, ka cA 9), (q2, ka cA 9), (q3, ka cA 9), (q4, ka cA 9), (q5, ka cA 9), (q6, ka cA 9), (q7, ka cA 6)] H := hP
  have hD : va_D A [(h0, .inr (0, [kz, .ref q1, .ref q2, .ref q3, .ref q4, .ref q5, .ref q6, kz, .ref q7, .null, .null, kz])), (q1, ka cA 9), (q2, ka cA 9), (q3, ka cA 9), (q4, ka cA 9), (q5, ka cA 9), (q6, ka cA 9), (q7, ka cA 6)] := hD
  refine lv_aload_n hx hb dX0_init_70 rfl (lv_at hl 0 rfl) ?_
  refine lv_bipush (v := 6) hx hb dX0_init_71 (by decide) ?_
  refine va_newa (n := 6) (N' := 6) (a0 := (6, .inl (fun _ => Int32.ofInt 0))) hx hb (hts _ ac_i) rfl hK hP hD hS hA (fun _ => rfl) (by decide) (by decide) (by decide) (Nat.le_of_ble_eq_true rfl) (Nat.le_of_ble_eq_true rfl) dX0_init_73 (fun q8 cB H hKb hP hD hS => ?_)
  rw [kq_cAe hKb] at hP hD
  have hP : va_P D vwCl [(h0, .inr (0, [kz, .ref q1, .ref q2, .ref q3, .ref q4, .ref q5, .ref q6, kz, .ref q7, .null, .null, kz])), (q1, ka cA 9), (q2, ka cA 9), (q3, ka cA 9), (q4, ka cA 9), (q5, ka cA 9), (q6, ka cA 9), (q7, ka cA 6), (q8, ka cA 6)] H := hP
  have hD : va_D A [(h0, .inr (0, [kz, .ref q1, .ref q2, .ref q3, .ref q4, .ref q5, .ref q6, kz, .ref q7, .null, .null, kz])), (q1, ka cA 9), (q2, ka cA 9), (q3, ka cA 9), (q4, ka cA 9), (q5, ka cA 9), (q6, ka cA 9), (q7, ka cA 6), (q8, ka cA 6)] := hD
  refine W.widen (k := 8) (n := 66) (by omega) (by omega) ?_
  refine va_putF (D := D) (ci := 0) (v := .ref q8) (ty := (.array .int)) (C := RX0) (T := TX0) (N := 12) hx hb hts cf_X0.2.1 tyX0 tyX0_ok nmX0 hown hK hP hD hS 0 rfl rfl 9 (by decide) (hts _ fk_X0_40) (fun _ h9 => h9) rfl hin rfl (by decide +kernel) rfl rfl (Nat.le_of_ble_eq_true rfl) dX0_init_75 (fun H locs hP hD hS => ?_)
  have hP : va_P D vwCl [(h0, .inr (0, [kz, .ref q1, .ref q2, .ref q3, .ref q4, .ref q5, .ref q6, kz, .ref q7, .ref q8, .null, kz])), (q1, ka cA 9), (q2, ka cA 9), (q3, ka cA 9), (q4, ka cA 9), (q5, ka cA 9), (q6, ka cA 9), (q7, ka cA 6), (q8, ka cA 6)] H := hP
  have hD : va_D A [(h0, .inr (0, [kz, .ref q1, .ref q2, .ref q3, .ref q4, .ref q5, .ref q6, kz, .ref q7, .ref q8, .null, kz])), (q1, ka cA 9), (q2, ka cA 9), (q3, ka cA 9), (q4, ka cA 9), (q5, ka cA 9), (q6, ka cA 9), (q7, ka cA 6), (q8, ka cA 6)] := hD
  refine lv_aload_n hx hb dX0_init_78 rfl (lv_at hl 0 rfl) ?_
  refine lv_bipush (v := 6) hx hb dX0_init_79 (by decide) ?_
  refine va_newa (n := 6) (N' := 6) (a0 := (6, .inl (fun _ => Int32.ofInt 0))) hx hb (hts _ ac_i) rfl hK hP hD hS hA (fun _ => rfl) (by decide) (by decide) (by decide) (Nat.le_of_ble_eq_true rfl) (Nat.le_of_ble_eq_true rfl) dX0_init_81 (fun q9 cB H hKb hP hD hS => ?_)
  rw [kq_cAe hKb] at hP hD
  have hP : va_P D vwCl [(h0, .inr (0, [kz, .ref q1, .ref q2, .ref q3, .ref q4, .ref q5, .ref q6, kz, .ref q7, .ref q8, .null, kz])), (q1, ka cA 9), (q2, ka cA 9), (q3, ka cA 9), (q4, ka cA 9), (q5, ka cA 9), (q6, ka cA 9), (q7, ka cA 6), (q8, ka cA 6), (q9, ka cA 6)] H := hP
  have hD : va_D A [(h0, .inr (0, [kz, .ref q1, .ref q2, .ref q3, .ref q4, .ref q5, .ref q6, kz, .ref q7, .ref q8, .null, kz])), (q1, ka cA 9), (q2, ka cA 9), (q3, ka cA 9), (q4, ka cA 9), (q5, ka cA 9), (q6, ka cA 9), (q7, ka cA 6), (q8, ka cA 6), (q9, ka cA 6)] := hD
  refine W.widen (k := 9) (n := 72) (by omega) (by omega) ?_
  refine va_putF (D := D) (ci := 0) (v := .ref q9) (ty := (.array .int)) (C := RX0) (T := TX0) (N := 12) hx hb hts cf_X0.2.1 tyX0 tyX0_ok nmX0 hown hK hP hD hS 0 rfl rfl 10 (by decide) (hts _ fk_X0_43) (fun _ h9 => h9) rfl hin rfl (by decide +kernel) rfl rfl (Nat.le_of_ble_eq_true rfl) dX0_init_83 (fun H locs hP hD hS => ?_)
  have hP : va_P D vwCl [(h0, .inr (0, [kz, .ref q1, .ref q2, .ref q3, .ref q4, .ref q5, .ref q6, kz, .ref q7, .ref q8, .ref q9, kz])), (q1, ka cA 9), (q2, ka cA 9), (q3, ka cA 9), (q4, ka cA 9), (q5, ka cA 9), (q6, ka cA 9), (q7, ka cA 6), (q8, ka cA 6), (q9, ka cA 6)] H := hP
  have hD : va_D A [(h0, .inr (0, [kz, .ref q1, .ref q2, .ref q3, .ref q4, .ref q5, .ref q6, kz, .ref q7, .ref q8, .ref q9, kz])), (q1, ka cA 9), (q2, ka cA 9), (q3, ka cA 9), (q4, ka cA 9), (q5, ka cA 9), (q6, ka cA 9), (q7, ka cA 6), (q8, ka cA 6), (q9, ka cA 6)] := hD
  refine lv_aload_n hx hb dX0_init_86 rfl (lv_at hl 0 rfl) ?_
  refine lv_iconst (v := Int32.ofInt 0) hx hb dX0_init_87 rfl ?_
  refine va_put (D := D) (ci := 0) (v := kz) (ty := .int) (C := RX0) (T := TX0) (N := 12) hx hb hts cf_X0.2.1 tyX0 tyX0_ok nmX0 hown hK hP hD hS 0 rfl rfl 11 (by decide) (hts _ fk_X0_46) (fun _ h9 => h9) rfl (by decide +kernel) rfl rfl (Nat.le_of_ble_eq_true rfl) dX0_init_88 (fun H locs hP hD hS => ?_)
  have hP : va_P D vwCl [(h0, .inr (0, [kz, .ref q1, .ref q2, .ref q3, .ref q4, .ref q5, .ref q6, kz, .ref q7, .ref q8, .ref q9, kz])), (q1, ka cA 9), (q2, ka cA 9), (q3, ka cA 9), (q4, ka cA 9), (q5, ka cA 9), (q6, ka cA 9), (q7, ka cA 6), (q8, ka cA 6), (q9, ka cA 6)] H := hP
  have hD : va_D A [(h0, .inr (0, [kz, .ref q1, .ref q2, .ref q3, .ref q4, .ref q5, .ref q6, kz, .ref q7, .ref q8, .ref q9, kz])), (q1, ka cA 9), (q2, ka cA 9), (q3, ka cA 9), (q4, ka cA 9), (q5, ka cA 9), (q6, ka cA 9), (q7, ka cA 6), (q8, ka cA 6), (q9, ka cA 6)] := hD
  exact W.vret hx hb hr (fun t ht hW => ⟨⟨(), rfl, trivial, q1, q2, q3, q4, q5, q6, q7, q8, q9, by rw [ht]; exact hP, hD⟩, hS.F ht⟩) hS.2.2 dX0_init_91
theorem ol_X2 : Cond.methodLink RX2 3 objectInit ∈ kq_tb := kq_m (i := 141) (by decide +kernel) rfl
theorem fk_X2_9 : Cond.fieldLink RX2 9 (TX2 0).1 (TX2 0).2.1 (TX2 0).2.2.1 ∈ kq_tb := kq_m (i := 142) (by decide +kernel) rfl
theorem fk_X2_15 : Cond.fieldLink RX2 15 (TX2 1).1 (TX2 1).2.1 (TX2 1).2.2.1 ∈ kq_tb := kq_m (i := 143) (by decide +kernel) rfl
set_option maxHeartbeats 4000000 in
set_option maxRecDepth 100000 in
theorem c_X2_init (l : Launch) (D : va_G) (cA : ClassId) (h0 sz : Nat) : Met l yX2_init (Cond.code yX2_init cX2_init 1 none :: kq_tb) ({ frames := 1, cells := 1, slots := 96, locals := 12 }) (va_Pc [.ref h0] (fun U => U.heap.size = sz ∧ va_P D vwCl [(h0, .inr (1, [.null, kz]))] U.heap ∧ va_K D vwCl [(cA, .int)] U ∧ va_D (fun _ => True) [(h0, .inr (1, [.null, kz]))])) (va_Qv (fun _ : Unit => True) (fun _ t => ∃ (q1 : Nat), va_P D vwCl [(h0, .inr (1, [.ref q1, kz])), (q1, ka cA 96)] t.heap ∧ va_D (va_A [(h0, .inr (1, [.null, kz]))] sz) [(h0, .inr (1, [.ref q1, kz])), (q1, ka cA 96)]) (va_A [(h0, .inr (1, [.null, kz]))] sz)) 1 96 (va_A [(h0, .inr (1, [.null, kz]))] sz) := by
  refine Met.ofW (cc := cX2_init) (maxL := 1) (ret := none) (by decide) rfl ?_
  intro p e s m args below meth c s₁ B hml hv
  obtain ⟨rfl, hsz, hP, hK, hD0⟩ := hv
  have hx := B.exec
  have hb := B.bytes
  have hr := B.returns
  have hts0 := atoms_spec (ws := Cond.code yX2_init cX2_init 1 none :: kq_tb) B.pre
  have hts : ∀ w ∈ kq_tb, w.before _ s = true := fun w hw => hts0 w (List.mem_cons_of_mem _ hw)
  have hown : s.vm.findClass RX2 = some m.cls := findClass_of_methodNamed B.named
  have hlocks := B.notSynchronized
  have hin : meth.name = "<init>" := (name_of_methodNamed B.named B.method).1
  subst hsz
  have hD := hD0.self (sz := s.heap.size)
  generalize hAe : va_A [(h0, .inr (1, [.null, kz]))] s.heap.size = A at hD ⊢
  have hA : ∀ q : Nat, s.heap.size ≤ q → A q := fun q h => by rw [← hAe]; exact Or.inr h
  have hS : va_S A s.heap s.heap [] := va_S.rf
  have hP : va_P D vwCl [(h0, .inr (1, [.null, kz]))] s.heap := hP
  have hl := lv_entry ([.ref h0]) (n := 1) (Nat.le_of_ble_eq_true rfl)
  rw [lg_entry_eq]
  generalize (lg_sl ([.ref h0]) ++ List.replicate (1 - (lg_sl ([.ref h0])).length) Slot.unset).toArray = ls at hl ⊢
  have hl : lv_has ls 1 [(0, .ref h0)] := hl
  refine lv_aload_n hx hb dX2_init_0 rfl (lv_at hl 0 rfl) ?_
  refine W.objInit hx hb hown (hts _ ol_X2) (hts _ oi_i) (hts _ oi_c) rfl (by rw [hml]; exact hl.1) rfl dX2_init_1 (Nat.le_of_ble_eq_true rfl) (Nat.le_of_ble_eq_true rfl) ?_
  refine W.eq (g2 := F0 m 4 ls []) rfl ?_
  refine lv_aload_n hx hb dX2_init_4 rfl (lv_at hl 0 rfl) ?_
  refine lv_bipush (v := 96) hx hb dX2_init_5 (by decide) ?_
  refine va_newa (n := 96) (N' := 96) (a0 := (96, .inl (fun _ => Int32.ofInt 0))) hx hb (hts _ ac_i) rfl hK hP hD hS hA (fun _ => rfl) (by decide) (by decide) (by decide) (Nat.le_of_ble_eq_true rfl) (Nat.le_of_ble_eq_true rfl) dX2_init_7 (fun q1 cB H hKb hP hD hS => ?_)
  rw [kq_cAe hKb] at hP hD
  have hP : va_P D vwCl [(h0, .inr (1, [.null, kz])), (q1, ka cA 96)] H := hP
  have hD : va_D A [(h0, .inr (1, [.null, kz])), (q1, ka cA 96)] := hD
  refine W.widen (k := 1) (n := 96) (by omega) (by omega) ?_
  refine va_putF (D := D) (ci := 1) (v := .ref q1) (ty := (.array .int)) (C := RX2) (T := TX2) (N := 2) hx hb hts cf_X2.2.1 tyX2 tyX2_ok nmX2 hown hK hP hD hS 0 rfl rfl 0 (by decide) (hts _ fk_X2_9) (fun _ h9 => h9) rfl hin rfl (by decide +kernel) rfl rfl (Nat.le_of_ble_eq_true rfl) dX2_init_9 (fun H locs hP hD hS => ?_)
  have hP : va_P D vwCl [(h0, .inr (1, [.ref q1, kz])), (q1, ka cA 96)] H := hP
  have hD : va_D A [(h0, .inr (1, [.ref q1, kz])), (q1, ka cA 96)] := hD
  refine lv_aload_n hx hb dX2_init_12 rfl (lv_at hl 0 rfl) ?_
  refine lv_iconst (v := Int32.ofInt 0) hx hb dX2_init_13 rfl ?_
  refine va_put (D := D) (ci := 1) (v := kz) (ty := .int) (C := RX2) (T := TX2) (N := 2) hx hb hts cf_X2.2.1 tyX2 tyX2_ok nmX2 hown hK hP hD hS 0 rfl rfl 1 (by decide) (hts _ fk_X2_15) (fun _ h9 => h9) rfl (by decide +kernel) rfl rfl (Nat.le_of_ble_eq_true rfl) dX2_init_14 (fun H locs hP hD hS => ?_)
  have hP : va_P D vwCl [(h0, .inr (1, [.ref q1, kz])), (q1, ka cA 96)] H := hP
  have hD : va_D A [(h0, .inr (1, [.ref q1, kz])), (q1, ka cA 96)] := hD
  exact W.vret hx hb hr (fun t ht hW => ⟨⟨(), rfl, trivial, q1, by rw [ht]; exact hP, hD⟩, hS.F ht⟩) hS.2.2 dX2_init_17
theorem ol_X3 : Cond.methodLink RX3 3 objectInit ∈ kq_tb := kq_m (i := 155) (by decide +kernel) rfl
theorem fk_X3_9 : Cond.fieldLink RX3 9 (TX3 0).1 (TX3 0).2.1 (TX3 0).2.2.1 ∈ kq_tb := kq_m (i := 156) (by decide +kernel) rfl
theorem fk_X3_15 : Cond.fieldLink RX3 15 (TX3 1).1 (TX3 1).2.1 (TX3 1).2.2.1 ∈ kq_tb := kq_m (i := 157) (by decide +kernel) rfl
set_option maxHeartbeats 4000000 in
set_option maxRecDepth 100000 in
theorem c_X3_init (l : Launch) (D : va_G) (cA : ClassId) (h0 sz : Nat) : Met l yX3_init (Cond.code yX3_init cX3_init 1 none :: kq_tb) ({ frames := 1, cells := 2, slots := 16, locals := 12 }) (va_Pc [.ref h0] (fun U => U.heap.size = sz ∧ va_P D vwCl [(h0, .inr (2, [.null, .null]))] U.heap ∧ va_K D vwCl [(cA, .int)] U ∧ va_D (fun _ => True) [(h0, .inr (2, [.null, .null]))])) (va_Qv (fun _ : Unit => True) (fun _ t => ∃ (q1 q2 : Nat), va_P D vwCl [(h0, .inr (2, [.ref q1, .ref q2])), (q1, ka cA 9), (q2, ka cA 7)] t.heap ∧ va_D (va_A [(h0, .inr (2, [.null, .null]))] sz) [(h0, .inr (2, [.ref q1, .ref q2])), (q1, ka cA 9), (q2, ka cA 7)]) (va_A [(h0, .inr (2, [.null, .null]))] sz)) 2 16 (va_A [(h0, .inr (2, [.null, .null]))] sz) := by
  refine Met.ofW (cc := cX3_init) (maxL := 1) (ret := none) (by decide) rfl ?_
  intro p e s m args below meth c s₁ B hml hv
  obtain ⟨rfl, hsz, hP, hK, hD0⟩ := hv
  have hx := B.exec
  have hb := B.bytes
  have hr := B.returns
  have hts0 := atoms_spec (ws := Cond.code yX3_init cX3_init 1 none :: kq_tb) B.pre
  have hts : ∀ w ∈ kq_tb, w.before _ s = true := fun w hw => hts0 w (List.mem_cons_of_mem _ hw)
  have hown : s.vm.findClass RX3 = some m.cls := findClass_of_methodNamed B.named
  have hlocks := B.notSynchronized
  have hin : meth.name = "<init>" := (name_of_methodNamed B.named B.method).1
  subst hsz
  have hD := hD0.self (sz := s.heap.size)
  generalize hAe : va_A [(h0, .inr (2, [.null, .null]))] s.heap.size = A at hD ⊢
  have hA : ∀ q : Nat, s.heap.size ≤ q → A q := fun q h => by rw [← hAe]; exact Or.inr h
  have hS : va_S A s.heap s.heap [] := va_S.rf
  have hP : va_P D vwCl [(h0, .inr (2, [.null, .null]))] s.heap := hP
  have hl := lv_entry ([.ref h0]) (n := 1) (Nat.le_of_ble_eq_true rfl)
  rw [lg_entry_eq]
  generalize (lg_sl ([.ref h0]) ++ List.replicate (1 - (lg_sl ([.ref h0])).length) Slot.unset).toArray = ls at hl ⊢
  have hl : lv_has ls 1 [(0, .ref h0)] := hl
  refine lv_aload_n hx hb dX3_init_0 rfl (lv_at hl 0 rfl) ?_
  refine W.objInit hx hb hown (hts _ ol_X3) (hts _ oi_i) (hts _ oi_c) rfl (by rw [hml]; exact hl.1) rfl dX3_init_1 (Nat.le_of_ble_eq_true rfl) (Nat.le_of_ble_eq_true rfl) ?_
  refine W.eq (g2 := F0 m 4 ls []) rfl ?_
  refine lv_aload_n hx hb dX3_init_4 rfl (lv_at hl 0 rfl) ?_
  refine lv_bipush (v := 9) hx hb dX3_init_5 (by decide) ?_
  refine va_newa (n := 9) (N' := 9) (a0 := (9, .inl (fun _ => Int32.ofInt 0))) hx hb (hts _ ac_i) rfl hK hP hD hS hA (fun _ => rfl) (by decide) (by decide) (by decide) (Nat.le_of_ble_eq_true rfl) (Nat.le_of_ble_eq_true rfl) dX3_init_7 (fun q1 cB H hKb hP hD hS => ?_)
  rw [kq_cAe hKb] at hP hD
  have hP : va_P D vwCl [(h0, .inr (2, [.null, .null])), (q1, ka cA 9)] H := hP
  have hD : va_D A [(h0, .inr (2, [.null, .null])), (q1, ka cA 9)] := hD
  refine W.widen (k := 1) (n := 9) (by omega) (by omega) ?_
  refine va_putF (D := D) (ci := 2) (v := .ref q1) (ty := (.array .int)) (C := RX3) (T := TX3) (N := 2) hx hb hts cf_X3.2.1 tyX3 tyX3_ok nmX3 hown hK hP hD hS 0 rfl rfl 0 (by decide) (hts _ fk_X3_9) (fun _ h9 => h9) rfl hin rfl (by decide +kernel) rfl rfl (Nat.le_of_ble_eq_true rfl) dX3_init_9 (fun H locs hP hD hS => ?_)
  have hP : va_P D vwCl [(h0, .inr (2, [.ref q1, .null])), (q1, ka cA 9)] H := hP
  have hD : va_D A [(h0, .inr (2, [.ref q1, .null])), (q1, ka cA 9)] := hD
  refine lv_aload_n hx hb dX3_init_12 rfl (lv_at hl 0 rfl) ?_
  refine lv_bipush (v := 7) hx hb dX3_init_13 (by decide) ?_
  refine va_newa (n := 7) (N' := 7) (a0 := (7, .inl (fun _ => Int32.ofInt 0))) hx hb (hts _ ac_i) rfl hK hP hD hS hA (fun _ => rfl) (by decide) (by decide) (by decide) (Nat.le_of_ble_eq_true rfl) (Nat.le_of_ble_eq_true rfl) dX3_init_15 (fun q2 cB H hKb hP hD hS => ?_)
  rw [kq_cAe hKb] at hP hD
  have hP : va_P D vwCl [(h0, .inr (2, [.ref q1, .null])), (q1, ka cA 9), (q2, ka cA 7)] H := hP
  have hD : va_D A [(h0, .inr (2, [.ref q1, .null])), (q1, ka cA 9), (q2, ka cA 7)] := hD
  refine W.widen (k := 2) (n := 16) (by omega) (by omega) ?_
  refine va_putF (D := D) (ci := 2) (v := .ref q2) (ty := (.array .int)) (C := RX3) (T := TX3) (N := 2) hx hb hts cf_X3.2.1 tyX3 tyX3_ok nmX3 hown hK hP hD hS 0 rfl rfl 1 (by decide) (hts _ fk_X3_15) (fun _ h9 => h9) rfl hin rfl (by decide +kernel) rfl rfl (Nat.le_of_ble_eq_true rfl) dX3_init_17 (fun H locs hP hD hS => ?_)
  have hP : va_P D vwCl [(h0, .inr (2, [.ref q1, .ref q2])), (q1, ka cA 9), (q2, ka cA 7)] H := hP
  have hD : va_D A [(h0, .inr (2, [.ref q1, .ref q2])), (q1, ka cA 9), (q2, ka cA 7)] := hD
  exact W.vret hx hb hr (fun t ht hW => ⟨⟨(), rfl, trivial, q1, q2, by rw [ht]; exact hP, hD⟩, hS.F ht⟩) hS.2.2 dX3_init_20
theorem ol_X5 : Cond.methodLink RX5 1 objectInit ∈ kq_tb := kq_m (i := 685) (by decide +kernel) rfl
theorem fk_X5_9 : Cond.fieldLink RX5 9 (TX5 0).1 (TX5 0).2.1 (TX5 0).2.2.1 ∈ kq_tb := kq_m (i := 686) (by decide +kernel) rfl
theorem fk_X5_13 : Cond.fieldLink RX5 13 (TX5 1).1 (TX5 1).2.1 (TX5 1).2.2.1 ∈ kq_tb := kq_m (i := 687) (by decide +kernel) rfl
theorem fk_X5_16 : Cond.fieldLink RX5 16 (TX5 2).1 (TX5 2).2.1 (TX5 2).2.2.1 ∈ kq_tb := kq_m (i := 688) (by decide +kernel) rfl
theorem fk_X5_19 : Cond.fieldLink RX5 19 (TX5 3).1 (TX5 3).2.1 (TX5 3).2.2.1 ∈ kq_tb := kq_m (i := 689) (by decide +kernel) rfl
theorem fk_X5_22 : Cond.fieldLink RX5 22 (TX5 5).1 (TX5 5).2.1 (TX5 5).2.2.1 ∈ kq_tb := kq_m (i := 691) (by decide +kernel) rfl
theorem fk_X5_25 : Cond.fieldLink RX5 25 (TX5 6).1 (TX5 6).2.1 (TX5 6).2.2.1 ∈ kq_tb := kq_m (i := 692) (by decide +kernel) rfl
theorem fk_X5_28 : Cond.fieldLink RX5 28 (TX5 7).1 (TX5 7).2.1 (TX5 7).2.2.1 ∈ kq_tb := kq_m (i := 693) (by decide +kernel) rfl
theorem fk_X5_31 : Cond.fieldLink RX5 31 (TX5 11).1 (TX5 11).2.1 (TX5 11).2.2.1 ∈ kq_tb := kq_m (i := 697) (by decide +kernel) rfl
theorem fk_X5_34 : Cond.fieldLink RX5 34 (TX5 12).1 (TX5 12).2.1 (TX5 12).2.2.1 ∈ kq_tb := kq_m (i := 698) (by decide +kernel) rfl
set_option maxHeartbeats 4000000 in
set_option maxRecDepth 100000 in
theorem c_X5_init (l : Launch) (D : va_G) (cA : ClassId) (h0 sz : Nat) : Met l yX5_init (Cond.code yX5_init cX5_init 1 none :: kq_tb) ({ frames := 1, cells := 9, slots := 430, locals := 12 }) (va_Pc [.ref h0] (fun U => U.heap.size = sz ∧ va_P D vwCl [(h0, .inr (4, [.null, .null, .null, .null, kz, .null, .null, .null, kz, kz, kz, .null, .null, kz]))] U.heap ∧ va_K D vwCl [(cA, .int)] U ∧ va_D (fun _ => True) [(h0, .inr (4, [.null, .null, .null, .null, kz, .null, .null, .null, kz, kz, kz, .null, .null, kz]))])) (va_Qv (fun _ : Unit => True) (fun _ t => ∃ (q1 q2 q3 q4 q5 q6 q7 q8 q9 : Nat), va_P D vwCl [(h0, .inr (4, [.ref q1, .ref q2, .ref q3, .ref q4, kz, .ref q5, .ref q6, .ref q7, kz, kz, kz, .ref q8, .ref q9, kz])), (q1, ka cA 75), (q2, ka cA 75), (q3, ka cA 75), (q4, ka cA 75), (q5, ka cA 96), (q6, ka cA 16), (q7, ka cA 7), (q8, ka cA 4), (q9, ka cA 7)] t.heap ∧ va_D (va_A [(h0, .inr (4, [.null, .null, .null, .null, kz, .null, .null, .null, kz, kz, kz, .null, .null, kz]))] sz) [(h0, .inr (4, [.ref q1, .ref q2, .ref q3, .ref q4, kz, .ref q5, .ref q6, .ref q7, kz, kz, kz, .ref q8, .ref q9, kz])), (q1, ka cA 75), (q2, ka cA 75), (q3, ka cA 75), (q4, ka cA 75), (q5, ka cA 96), (q6, ka cA 16), (q7, ka cA 7), (q8, ka cA 4), (q9, ka cA 7)]) (va_A [(h0, .inr (4, [.null, .null, .null, .null, kz, .null, .null, .null, kz, kz, kz, .null, .null, kz]))] sz)) 9 430 (va_A [(h0, .inr (4, [.null, .null, .null, .null, kz, .null, .null, .null, kz, kz, kz, .null, .null, kz]))] sz) := by
  refine Met.ofW (cc := cX5_init) (maxL := 1) (ret := none) (by decide) rfl ?_
  intro p e s m args below meth c s₁ B hml hv
  obtain ⟨rfl, hsz, hP, hK, hD0⟩ := hv
  have hx := B.exec
  have hb := B.bytes
  have hr := B.returns
  have hts0 := atoms_spec (ws := Cond.code yX5_init cX5_init 1 none :: kq_tb) B.pre
  have hts : ∀ w ∈ kq_tb, w.before _ s = true := fun w hw => hts0 w (List.mem_cons_of_mem _ hw)
  have hown : s.vm.findClass RX5 = some m.cls := findClass_of_methodNamed B.named
  have hlocks := B.notSynchronized
  have hin : meth.name = "<init>" := (name_of_methodNamed B.named B.method).1
  subst hsz
  have hD := hD0.self (sz := s.heap.size)
  generalize hAe : va_A [(h0, .inr (4, [.null, .null, .null, .null, kz, .null, .null, .null, kz, kz, kz, .null, .null, kz]))] s.heap.size = A at hD ⊢
  have hA : ∀ q : Nat, s.heap.size ≤ q → A q := fun q h => by rw [← hAe]; exact Or.inr h
  have hS : va_S A s.heap s.heap [] := va_S.rf
  have hP : va_P D vwCl [(h0, .inr (4, [.null, .null, .null, .null, kz, .null, .null, .null, kz, kz, kz, .null, .null, kz]))] s.heap := hP
  have hl := lv_entry ([.ref h0]) (n := 1) (Nat.le_of_ble_eq_true rfl)
  rw [lg_entry_eq]
  generalize (lg_sl ([.ref h0]) ++ List.replicate (1 - (lg_sl ([.ref h0])).length) Slot.unset).toArray = ls at hl ⊢
  have hl : lv_has ls 1 [(0, .ref h0)] := hl
  refine lv_aload_n hx hb dX5_init_0 rfl (lv_at hl 0 rfl) ?_
  refine W.objInit hx hb hown (hts _ ol_X5) (hts _ oi_i) (hts _ oi_c) rfl (by rw [hml]; exact hl.1) rfl dX5_init_1 (Nat.le_of_ble_eq_true rfl) (Nat.le_of_ble_eq_true rfl) ?_
  refine W.eq (g2 := F0 m 4 ls []) rfl ?_
  refine lv_aload_n hx hb dX5_init_4 rfl (lv_at hl 0 rfl) ?_
  refine lv_bipush (v := 75) hx hb dX5_init_5 (by decide) ?_
  refine va_newa (n := 75) (N' := 75) (a0 := (75, .inl (fun _ => Int32.ofInt 0))) hx hb (hts _ ac_i) rfl hK hP hD hS hA (fun _ => rfl) (by decide) (by decide) (by decide) (Nat.le_of_ble_eq_true rfl) (Nat.le_of_ble_eq_true rfl) dX5_init_7 (fun q1 cB H hKb hP hD hS => ?_)
  rw [kq_cAe hKb] at hP hD
  have hP : va_P D vwCl [(h0, .inr (4, [.null, .null, .null, .null, kz, .null, .null, .null, kz, kz, kz, .null, .null, kz])), (q1, ka cA 75)] H := hP
  have hD : va_D A [(h0, .inr (4, [.null, .null, .null, .null, kz, .null, .null, .null, kz, kz, kz, .null, .null, kz])), (q1, ka cA 75)] := hD
  refine W.widen (k := 1) (n := 75) (by omega) (by omega) ?_
  refine va_putF (D := D) (ci := 4) (v := .ref q1) (ty := (.array .int)) (C := RX5) (T := TX5) (N := 14) hx hb hts cf_X5.2.1 tyX5 tyX5_ok nmX5 hown hK hP hD hS 0 rfl rfl 0 (by decide) (hts _ fk_X5_9) (fun _ h9 => h9) rfl hin rfl (by decide +kernel) rfl rfl (Nat.le_of_ble_eq_true rfl) dX5_init_9 (fun H locs hP hD hS => ?_)
  have hP : va_P D vwCl [(h0, .inr (4, [.ref q1, .null, .null, .null, kz, .null, .null, .null, kz, kz, kz, .null, .null, kz])), (q1, ka cA 75)] H := hP
  have hD : va_D A [(h0, .inr (4, [.ref q1, .null, .null, .null, kz, .null, .null, .null, kz, kz, kz, .null, .null, kz])), (q1, ka cA 75)] := hD
  refine lv_aload_n hx hb dX5_init_12 rfl (lv_at hl 0 rfl) ?_
  refine lv_bipush (v := 75) hx hb dX5_init_13 (by decide) ?_
  refine va_newa (n := 75) (N' := 75) (a0 := (75, .inl (fun _ => Int32.ofInt 0))) hx hb (hts _ ac_i) rfl hK hP hD hS hA (fun _ => rfl) (by decide) (by decide) (by decide) (Nat.le_of_ble_eq_true rfl) (Nat.le_of_ble_eq_true rfl) dX5_init_15 (fun q2 cB H hKb hP hD hS => ?_)
  rw [kq_cAe hKb] at hP hD
  have hP : va_P D vwCl [(h0, .inr (4, [.ref q1, .null, .null, .null, kz, .null, .null, .null, kz, kz, kz, .null, .null, kz])), (q1, ka cA 75), (q2, ka cA 75)] H := hP
  have hD : va_D A [(h0, .inr (4, [.ref q1, .null, .null, .null, kz, .null, .null, .null, kz, kz, kz, .null, .null, kz])), (q1, ka cA 75), (q2, ka cA 75)] := hD
  refine W.widen (k := 2) (n := 150) (by omega) (by omega) ?_
  refine va_putF (D := D) (ci := 4) (v := .ref q2) (ty := (.array .int)) (C := RX5) (T := TX5) (N := 14) hx hb hts cf_X5.2.1 tyX5 tyX5_ok nmX5 hown hK hP hD hS 0 rfl rfl 1 (by decide) (hts _ fk_X5_13) (fun _ h9 => h9) rfl hin rfl (by decide +kernel) rfl rfl (Nat.le_of_ble_eq_true rfl) dX5_init_17 (fun H locs hP hD hS => ?_)
  have hP : va_P D vwCl [(h0, .inr (4, [.ref q1, .ref q2, .null, .null, kz, .null, .null, .null, kz, kz, kz, .null, .null, kz])), (q1, ka cA 75), (q2, ka cA 75)] H := hP
  have hD : va_D A [(h0, .inr (4, [.ref q1, .ref q2, .null, .null, kz, .null, .null, .null, kz, kz, kz, .null, .null, kz])), (q1, ka cA 75), (q2, ka cA 75)] := hD
  refine lv_aload_n hx hb dX5_init_20 rfl (lv_at hl 0 rfl) ?_
  refine lv_bipush (v := 75) hx hb dX5_init_21 (by decide) ?_
  refine va_newa (n := 75) (N' := 75) (a0 := (75, .inl (fun _ => Int32.ofInt 0))) hx hb (hts _ ac_i) rfl hK hP hD hS hA (fun _ => rfl) (by decide) (by decide) (by decide) (Nat.le_of_ble_eq_true rfl) (Nat.le_of_ble_eq_true rfl) dX5_init_23 (fun q3 cB H hKb hP hD hS => ?_)
  rw [kq_cAe hKb] at hP hD
  have hP : va_P D vwCl [(h0, .inr (4, [.ref q1, .ref q2, .null, .null, kz, .null, .null, .null, kz, kz, kz, .null, .null, kz])), (q1, ka cA 75), (q2, ka cA 75), (q3, ka cA 75)] H := hP
  have hD : va_D A [(h0, .inr (4, [.ref q1, .ref q2, .null, .null, kz, .null, .null, .null, kz, kz, kz, .null, .null, kz])), (q1, ka cA 75), (q2, ka cA 75), (q3, ka cA 75)] := hD
  refine W.widen (k := 3) (n := 225) (by omega) (by omega) ?_
  refine va_putF (D := D) (ci := 4) (v := .ref q3) (ty := (.array .int)) (C := RX5) (T := TX5) (N := 14) hx hb hts cf_X5.2.1 tyX5 tyX5_ok nmX5 hown hK hP hD hS 0 rfl rfl 2 (by decide) (hts _ fk_X5_16) (fun _ h9 => h9) rfl hin rfl (by decide +kernel) rfl rfl (Nat.le_of_ble_eq_true rfl) dX5_init_25 (fun H locs hP hD hS => ?_)
  have hP : va_P D vwCl [(h0, .inr (4, [.ref q1, .ref q2, .ref q3, .null, kz, .null, .null, .null, kz, kz, kz, .null, .null, kz])), (q1, ka cA 75), (q2, ka cA 75), (q3, ka cA 75)] H := hP
  have hD : va_D A [(h0, .inr (4, [.ref q1, .ref q2, .ref q3, .null, kz, .null, .null, .null, kz, kz, kz, .null, .null, kz])), (q1, ka cA 75), (q2, ka cA 75), (q3, ka cA 75)] := hD
  refine lv_aload_n hx hb dX5_init_28 rfl (lv_at hl 0 rfl) ?_
  refine lv_bipush (v := 75) hx hb dX5_init_29 (by decide) ?_
  refine va_newa (n := 75) (N' := 75) (a0 := (75, .inl (fun _ => Int32.ofInt 0))) hx hb (hts _ ac_i) rfl hK hP hD hS hA (fun _ => rfl) (by decide) (by decide) (by decide) (Nat.le_of_ble_eq_true rfl) (Nat.le_of_ble_eq_true rfl) dX5_init_31 (fun q4 cB H hKb hP hD hS => ?_)
  rw [kq_cAe hKb] at hP hD
  have hP : va_P D vwCl [(h0, .inr (4, [.ref q1, .ref q2, .ref q3, .null, kz, .null, .null, .null, kz, kz, kz, .null, .null, kz])), (q1, ka cA 75), (q2, ka cA 75), (q3, ka cA 75), (q4, ka cA 75)] H := hP
  have hD : va_D A [(h0, .inr (4, [.ref q1, .ref q2, .ref q3, .null, kz, .null, .null, .null, kz, kz, kz, .null, .null, kz])), (q1, ka cA 75), (q2, ka cA 75), (q3, ka cA 75), (q4, ka cA 75)] := hD
  refine W.widen (k := 4) (n := 300) (by omega) (by omega) ?_
  refine va_putF (D := D) (ci := 4) (v := .ref q4) (ty := (.array .int)) (C := RX5) (T := TX5) (N := 14) hx hb hts cf_X5.2.1 tyX5 tyX5_ok nmX5 hown hK hP hD hS 0 rfl rfl 3 (by decide) (hts _ fk_X5_19) (fun _ h9 => h9) rfl hin rfl (by decide +kernel) rfl rfl (Nat.le_of_ble_eq_true rfl) dX5_init_33 (fun H locs hP hD hS => ?_)
  have hP : va_P D vwCl [(h0, .inr (4, [.ref q1, .ref q2, .ref q3, .ref q4, kz, .null, .null, .null, kz, kz, kz, .null, .null, kz])), (q1, ka cA 75), (q2, ka cA 75), (q3, ka cA 75), (q4, ka cA 75)] H := hP
  have hD : va_D A [(h0, .inr (4, [.ref q1, .ref q2, .ref q3, .ref q4, kz, .null, .null, .null, kz, kz, kz, .null, .null, kz])), (q1, ka cA 75), (q2, ka cA 75), (q3, ka cA 75), (q4, ka cA 75)] := hD
  refine lv_aload_n hx hb dX5_init_36 rfl (lv_at hl 0 rfl) ?_
  refine lv_bipush (v := 96) hx hb dX5_init_37 (by decide) ?_
  refine va_newa (n := 96) (N' := 96) (a0 := (96, .inl (fun _ => Int32.ofInt 0))) hx hb (hts _ ac_i) rfl hK hP hD hS hA (fun _ => rfl) (by decide) (by decide) (by decide) (Nat.le_of_ble_eq_true rfl) (Nat.le_of_ble_eq_true rfl) dX5_init_39 (fun q5 cB H hKb hP hD hS => ?_)
  rw [kq_cAe hKb] at hP hD
  have hP : va_P D vwCl [(h0, .inr (4, [.ref q1, .ref q2, .ref q3, .ref q4, kz, .null, .null, .null, kz, kz, kz, .null, .null, kz])), (q1, ka cA 75), (q2, ka cA 75), (q3, ka cA 75), (q4, ka cA 75), (q5, ka cA 96)] H := hP
  have hD : va_D A [(h0, .inr (4, [.ref q1, .ref q2, .ref q3, .ref q4, kz, .null, .null, .null, kz, kz, kz, .null, .null, kz])), (q1, ka cA 75), (q2, ka cA 75), (q3, ka cA 75), (q4, ka cA 75), (q5, ka cA 96)] := hD
  refine W.widen (k := 5) (n := 396) (by omega) (by omega) ?_
  refine va_putF (D := D) (ci := 4) (v := .ref q5) (ty := (.array .int)) (C := RX5) (T := TX5) (N := 14) hx hb hts cf_X5.2.1 tyX5 tyX5_ok nmX5 hown hK hP hD hS 0 rfl rfl 5 (by decide) (hts _ fk_X5_22) (fun _ h9 => h9) rfl hin rfl (by decide +kernel) rfl rfl (Nat.le_of_ble_eq_true rfl) dX5_init_41 (fun H locs hP hD hS => ?_)
  have hP : va_P D vwCl [(h0, .inr (4, [.ref q1, .ref q2, .ref q3, .ref q4, kz, .ref q5, .null, .null, kz, kz, kz, .null, .null, kz])), (q1, ka cA 75), (q2, ka cA 75), (q3, ka cA 75), (q4, ka cA 75), (q5, ka cA 96)] H := hP
  have hD : va_D A [(h0, .inr (4, [.ref q1, .ref q2, .ref q3, .ref q4, kz, .ref q5, .null, .null, kz, kz, kz, .null, .null, kz])), (q1, ka cA 75), (q2, ka cA 75), (q3, ka cA 75), (q4, ka cA 75), (q5, ka cA 96)] := hD
  refine lv_aload_n hx hb dX5_init_44 rfl (lv_at hl 0 rfl) ?_
  refine lv_bipush (v := 16) hx hb dX5_init_45 (by decide) ?_
  refine va_newa (n := 16) (N' := 16) (a0 := (16, .inl (fun _ => Int32.ofInt 0))) hx hb (hts _ ac_i) rfl hK hP hD hS hA (fun _ => rfl) (by decide) (by decide) (by decide) (Nat.le_of_ble_eq_true rfl) (Nat.le_of_ble_eq_true rfl) dX5_init_47 (fun q6 cB H hKb hP hD hS => ?_)
  rw [kq_cAe hKb] at hP hD
  have hP : va_P D vwCl [(h0, .inr (4, [.ref q1, .ref q2, .ref q3, .ref q4, kz, .ref q5, .null, .null, kz, kz, kz, .null, .null, kz])), (q1, ka cA 75), (q2, ka cA 75), (q3, ka cA 75), (q4, ka cA 75), (q5, ka cA 96), (q6, ka cA 16)] H := hP
  have hD : va_D A [(h0, .inr (4, [.ref q1, .ref q2, .ref q3, .ref q4, kz, .ref q5, .null, .null, kz, kz, kz, .null, .null, kz])), (q1, ka cA 75), (q2, ka cA 75), (q3, ka cA 75), (q4, ka cA 75), (q5, ka cA 96), (q6, ka cA 16)] := hD
  refine W.widen (k := 6) (n := 412) (by omega) (by omega) ?_
  refine va_putF (D := D) (ci := 4) (v := .ref q6) (ty := (.array .int)) (C := RX5) (T := TX5) (N := 14) hx hb hts cf_X5.2.1 tyX5 tyX5_ok nmX5 hown hK hP hD hS 0 rfl rfl 6 (by decide) (hts _ fk_X5_25) (fun _ h9 => h9) rfl hin rfl (by decide +kernel) rfl rfl (Nat.le_of_ble_eq_true rfl) dX5_init_49 (fun H locs hP hD hS => ?_)
  have hP : va_P D vwCl [(h0, .inr (4, [.ref q1, .ref q2, .ref q3, .ref q4, kz, .ref q5, .ref q6, .null, kz, kz, kz, .null, .null, kz])), (q1, ka cA 75), (q2, ka cA 75), (q3, ka cA 75), (q4, ka cA 75), (q5, ka cA 96), (q6, ka cA 16)] H := hP
  have hD : va_D A [(h0, .inr (4, [.ref q1, .ref q2, .ref q3, .ref q4, kz, .ref q5, .ref q6, .null, kz, kz, kz, .null, .null, kz])), (q1, ka cA 75), (q2, ka cA 75), (q3, ka cA 75), (q4, ka cA 75), (q5, ka cA 96), (q6, ka cA 16)] := hD
  refine lv_aload_n hx hb dX5_init_52 rfl (lv_at hl 0 rfl) ?_
  refine lv_bipush (v := 7) hx hb dX5_init_53 (by decide) ?_
  refine va_newa (n := 7) (N' := 7) (a0 := (7, .inl (fun _ => Int32.ofInt 0))) hx hb (hts _ ac_i) rfl hK hP hD hS hA (fun _ => rfl) (by decide) (by decide) (by decide) (Nat.le_of_ble_eq_true rfl) (Nat.le_of_ble_eq_true rfl) dX5_init_55 (fun q7 cB H hKb hP hD hS => ?_)
  rw [kq_cAe hKb] at hP hD
  have hP : va_P D vwCl [(h0, .inr (4, [.ref q1, .ref q2, .ref q3, .ref q4, kz, .ref q5, .ref q6, .null, kz, kz, kz, .null, .null, kz])), (q1, ka cA 75), (q2, ka cA 75), (q3, ka cA 75), (q4, ka cA 75), (q5, ka cA 96), (q6, ka cA 16), (q7, ka cA 7)] H := hP
  have hD : va_D A [(h0, .inr (4, [.ref q1, .ref q2, .ref q3, .ref q4, kz, .ref q5, .ref q6, .null, kz, kz, kz, .null, .null, kz])), (q1, ka cA 75), (q2, ka cA 75), (q3, ka cA 75), (q4, ka cA 75), (q5, ka cA 96), (q6, ka cA 16), (q7, ka cA 7)] := hD
  refine W.widen (k := 7) (n := 419) (by omega) (by omega) ?_
  refine va_putF (D := D) (ci := 4) (v := .ref q7) (ty := (.array .int)) (C := RX5) (T := TX5) (N := 14) hx hb hts cf_X5.2.1 tyX5 tyX5_ok nmX5 hown hK hP hD hS 0 rfl rfl 7 (by decide) (hts _ fk_X5_28) (fun _ h9 => h9) rfl hin rfl (by decide +kernel) rfl rfl (Nat.le_of_ble_eq_true rfl) dX5_init_57 (fun H locs hP hD hS => ?_)
  have hP : va_P D vwCl [(h0, .inr (4, [.ref q1, .ref q2, .ref q3, .ref q4, kz, .ref q5, .ref q6, .ref q7, kz, kz, kz, .null, .null, kz])), (q1, ka cA 75), (q2, ka cA 75), (q3, ka cA 75), (q4, ka cA 75), (q5, ka cA 96), (q6, ka cA 16), (q7, ka cA 7)] H := hP
  have hD : va_D A [(h0, .inr (4, [.ref q1, .ref q2, .ref q3, .ref q4, kz, .ref q5, .ref q6, .ref q7, kz, kz, kz, .null, .null, kz])), (q1, ka cA 75), (q2, ka cA 75), (q3, ka cA 75), (q4, ka cA 75), (q5, ka cA 96), (q6, ka cA 16), (q7, ka cA 7)] := hD
  refine lv_aload_n hx hb dX5_init_60 rfl (lv_at hl 0 rfl) ?_
  refine lv_iconst (v := 4) hx hb dX5_init_61 (by decide) ?_
  refine va_newa (n := 4) (N' := 4) (a0 := (4, .inl (fun _ => Int32.ofInt 0))) hx hb (hts _ ac_i) rfl hK hP hD hS hA (fun _ => rfl) (by decide) (by decide) (by decide) (Nat.le_of_ble_eq_true rfl) (Nat.le_of_ble_eq_true rfl) dX5_init_62 (fun q8 cB H hKb hP hD hS => ?_)
  rw [kq_cAe hKb] at hP hD
  have hP : va_P D vwCl [(h0, .inr (4, [.ref q1, .ref q2, .ref q3, .ref q4, kz, .ref q5, .ref q6, .ref q7, kz, kz, kz, .null, .null, kz])), (q1, ka cA 75), (q2, ka cA 75), (q3, ka cA 75), (q4, ka cA 75), (q5, ka cA 96), (q6, ka cA 16), (q7, ka cA 7), (q8, ka cA 4)] H := hP
  have hD : va_D A [(h0, .inr (4, [.ref q1, .ref q2, .ref q3, .ref q4, kz, .ref q5, .ref q6, .ref q7, kz, kz, kz, .null, .null, kz])), (q1, ka cA 75), (q2, ka cA 75), (q3, ka cA 75), (q4, ka cA 75), (q5, ka cA 96), (q6, ka cA 16), (q7, ka cA 7), (q8, ka cA 4)] := hD
  refine W.widen (k := 8) (n := 423) (by omega) (by omega) ?_
  refine va_putF (D := D) (ci := 4) (v := .ref q8) (ty := (.array .int)) (C := RX5) (T := TX5) (N := 14) hx hb hts cf_X5.2.1 tyX5 tyX5_ok nmX5 hown hK hP hD hS 0 rfl rfl 11 (by decide) (hts _ fk_X5_31) (fun _ h9 => h9) rfl hin rfl (by decide +kernel) rfl rfl (Nat.le_of_ble_eq_true rfl) dX5_init_64 (fun H locs hP hD hS => ?_)
  have hP : va_P D vwCl [(h0, .inr (4, [.ref q1, .ref q2, .ref q3, .ref q4, kz, .ref q5, .ref q6, .ref q7, kz, kz, kz, .ref q8, .null, kz])), (q1, ka cA 75), (q2, ka cA 75), (q3, ka cA 75), (q4, ka cA 75), (q5, ka cA 96), (q6, ka cA 16), (q7, ka cA 7), (q8, ka cA 4)] H := hP
  have hD : va_D A [(h0, .inr (4, [.ref q1, .ref q2, .ref q3, .ref q4, kz, .ref q5, .ref q6, .ref q7, kz, kz, kz, .ref q8, .null, kz])), (q1, ka cA 75), (q2, ka cA 75), (q3, ka cA 75), (q4, ka cA 75), (q5, ka cA 96), (q6, ka cA 16), (q7, ka cA 7), (q8, ka cA 4)] := hD
  refine lv_aload_n hx hb dX5_init_67 rfl (lv_at hl 0 rfl) ?_
  refine lv_bipush (v := 7) hx hb dX5_init_68 (by decide) ?_
  refine va_newa (n := 7) (N' := 7) (a0 := (7, .inl (fun _ => Int32.ofInt 0))) hx hb (hts _ ac_i) rfl hK hP hD hS hA (fun _ => rfl) (by decide) (by decide) (by decide) (Nat.le_of_ble_eq_true rfl) (Nat.le_of_ble_eq_true rfl) dX5_init_70 (fun q9 cB H hKb hP hD hS => ?_)
  rw [kq_cAe hKb] at hP hD
  have hP : va_P D vwCl [(h0, .inr (4, [.ref q1, .ref q2, .ref q3, .ref q4, kz, .ref q5, .ref q6, .ref q7, kz, kz, kz, .ref q8, .null, kz])), (q1, ka cA 75), (q2, ka cA 75), (q3, ka cA 75), (q4, ka cA 75), (q5, ka cA 96), (q6, ka cA 16), (q7, ka cA 7), (q8, ka cA 4), (q9, ka cA 7)] H := hP
  have hD : va_D A [(h0, .inr (4, [.ref q1, .ref q2, .ref q3, .ref q4, kz, .ref q5, .ref q6, .ref q7, kz, kz, kz, .ref q8, .null, kz])), (q1, ka cA 75), (q2, ka cA 75), (q3, ka cA 75), (q4, ka cA 75), (q5, ka cA 96), (q6, ka cA 16), (q7, ka cA 7), (q8, ka cA 4), (q9, ka cA 7)] := hD
  refine W.widen (k := 9) (n := 430) (by omega) (by omega) ?_
  refine va_putF (D := D) (ci := 4) (v := .ref q9) (ty := (.array .int)) (C := RX5) (T := TX5) (N := 14) hx hb hts cf_X5.2.1 tyX5 tyX5_ok nmX5 hown hK hP hD hS 0 rfl rfl 12 (by decide) (hts _ fk_X5_34) (fun _ h9 => h9) rfl hin rfl (by decide +kernel) rfl rfl (Nat.le_of_ble_eq_true rfl) dX5_init_72 (fun H locs hP hD hS => ?_)
  have hP : va_P D vwCl [(h0, .inr (4, [.ref q1, .ref q2, .ref q3, .ref q4, kz, .ref q5, .ref q6, .ref q7, kz, kz, kz, .ref q8, .ref q9, kz])), (q1, ka cA 75), (q2, ka cA 75), (q3, ka cA 75), (q4, ka cA 75), (q5, ka cA 96), (q6, ka cA 16), (q7, ka cA 7), (q8, ka cA 4), (q9, ka cA 7)] H := hP
  have hD : va_D A [(h0, .inr (4, [.ref q1, .ref q2, .ref q3, .ref q4, kz, .ref q5, .ref q6, .ref q7, kz, kz, kz, .ref q8, .ref q9, kz])), (q1, ka cA 75), (q2, ka cA 75), (q3, ka cA 75), (q4, ka cA 75), (q5, ka cA 96), (q6, ka cA 16), (q7, ka cA 7), (q8, ka cA 4), (q9, ka cA 7)] := hD
  exact W.vret hx hb hr (fun t ht hW => ⟨⟨(), rfl, trivial, q1, q2, q3, q4, q5, q6, q7, q8, q9, by rw [ht]; exact hP, hD⟩, hS.F ht⟩) hS.2.2 dX5_init_75
theorem ol_X4 : Cond.methodLink RX4 1 objectInit ∈ kq_tb := kq_m (i := 73) (by decide +kernel) rfl
theorem cl_X4_7 : Cond.classLink RX4 7 RX0 ∈ kq_tb := kq_m (i := 76) (by decide +kernel) rfl
theorem il_X4_9 : Cond.methodLink RX4 9 yX0_init ∈ kq_tb := kq_m (i := 78) (by decide +kernel) rfl
theorem fk_X4_10 : Cond.fieldLink RX4 10 (TX4 0).1 (TX4 0).2.1 (TX4 0).2.2.1 ∈ kq_tb := kq_m (i := 163) (by decide +kernel) rfl
theorem fk_X4_16 : Cond.fieldLink RX4 16 (TX4 1).1 (TX4 1).2.1 (TX4 1).2.2.1 ∈ kq_tb := kq_m (i := 164) (by decide +kernel) rfl
theorem fk_X4_19 : Cond.fieldLink RX4 19 (TX4 2).1 (TX4 2).2.1 (TX4 2).2.2.1 ∈ kq_tb := kq_m (i := 165) (by decide +kernel) rfl
theorem fk_X4_22 : Cond.fieldLink RX4 22 (TX4 3).1 (TX4 3).2.1 (TX4 3).2.2.1 ∈ kq_tb := kq_m (i := 166) (by decide +kernel) rfl
theorem cl_X4_26 : Cond.classLink RX4 26 RX2 ∈ kq_tb := kq_m (i := 136) (by decide +kernel) rfl
theorem il_X4_28 : Cond.methodLink RX4 28 yX2_init ∈ kq_tb := kq_m (i := 138) (by decide +kernel) rfl
theorem fk_X4_29 : Cond.fieldLink RX4 29 (TX4 4).1 (TX4 4).2.1 (TX4 4).2.2.1 ∈ kq_tb := kq_m (i := 167) (by decide +kernel) rfl
theorem cl_X4_33 : Cond.classLink RX4 33 RX3 ∈ kq_tb := kq_m (i := 150) (by decide +kernel) rfl
theorem il_X4_35 : Cond.methodLink RX4 35 yX3_init ∈ kq_tb := kq_m (i := 152) (by decide +kernel) rfl
theorem fk_X4_36 : Cond.fieldLink RX4 36 (TX4 5).1 (TX4 5).2.1 (TX4 5).2.2.1 ∈ kq_tb := kq_m (i := 168) (by decide +kernel) rfl
theorem fk_X4_40 : Cond.fieldLink RX4 40 (TX4 6).1 (TX4 6).2.1 (TX4 6).2.2.1 ∈ kq_tb := kq_m (i := 169) (by decide +kernel) rfl
theorem fk_X4_44 : Cond.fieldLink RX4 44 (TX4 7).1 (TX4 7).2.1 (TX4 7).2.2.1 ∈ kq_tb := kq_m (i := 170) (by decide +kernel) rfl
theorem fk_X4_48 : Cond.fieldLink RX4 48 (TX4 8).1 (TX4 8).2.1 (TX4 8).2.2.1 ∈ kq_tb := kq_m (i := 171) (by decide +kernel) rfl
set_option maxHeartbeats 4000000 in
set_option maxRecDepth 100000 in
theorem c_X4_init (l : Launch) (D : va_G) (cA : ClassId) (h0 sz : Nat) : Met l yX4_init (Cond.code yX4_init cX4_init 1 none :: kq_tb) ({ frames := 2, cells := 37, slots := 391, locals := 32 }) (va_Pc [.ref h0] (fun U => U.heap.size = sz ∧ va_P D vwCl [(h0, .inr (3, [.null, .null, .null, kz, .null, .null, .null, kz, .null]))] U.heap ∧ va_K D vwCl [(cA, .int)] U ∧ va_D (fun _ => True) [(h0, .inr (3, [.null, .null, .null, kz, .null, .null, .null, kz, .null]))])) (va_Qv (fun _ : Unit => True) (fun _ t => ∃ (q1 q2 q3 q4 q5 q6 q7 q8 q9 q10 q11 q12 q13 q14 q15 q16 q17 q18 q19 q20 q21 q22 q23 q24 q25 q26 q27 q28 q29 q30 q31 q32 q33 q34 q35 q36 q37 : Nat), va_P D vwCl [(h0, .inr (3, [.ref q1, .ref q11, .ref q21, kz, .ref q31, .ref q33, .ref q36, kz, .ref q37])), (q1, .inr (0, [kz, .ref q2, .ref q3, .ref q4, .ref q5, .ref q6, .ref q7, kz, .ref q8, .ref q9, .ref q10, kz])), (q2, ka cA 9), (q3, ka cA 9), (q4, ka cA 9), (q5, ka cA 9), (q6, ka cA 9), (q7, ka cA 9), (q8, ka cA 6), (q9, ka cA 6), (q10, ka cA 6), (q11, .inr (0, [kz, .ref q12, .ref q13, .ref q14, .ref q15, .ref q16, .ref q17, kz, .ref q18, .ref q19, .ref q20, kz])), (q12, ka cA 9), (q13, ka cA 9), (q14, ka cA 9), (q15, ka cA 9), (q16, ka cA 9), (q17, ka cA 9), (q18, ka cA 6), (q19, ka cA 6), (q20, ka cA 6), (q21, .inr (0, [kz, .ref q22, .ref q23, .ref q24, .ref q25, .ref q26, .ref q27, kz, .ref q28, .ref q29, .ref q30, kz])), (q22, ka cA 9), (q23, ka cA 9), (q24, ka cA 9), (q25, ka cA 9), (q26, ka cA 9), (q27, ka cA 9), (q28, ka cA 6), (q29, ka cA 6), (q30, ka cA 6), (q31, .inr (1, [.ref q32, kz])), (q32, ka cA 96), (q33, .inr (2, [.ref q34, .ref q35])), (q34, ka cA 9), (q35, ka cA 7), (q36, ka cA 16), (q37, ka cA 7)] t.heap ∧ va_D (va_A [(h0, .inr (3, [.null, .null, .null, kz, .null, .null, .null, kz, .null]))] sz) [(h0, .inr (3, [.ref q1, .ref q11, .ref q21, kz, .ref q31, .ref q33, .ref q36, kz, .ref q37])), (q1, .inr (0, [kz, .ref q2, .ref q3, .ref q4, .ref q5, .ref q6, .ref q7, kz, .ref q8, .ref q9, .ref q10, kz])), (q2, ka cA 9), (q3, ka cA 9), (q4, ka cA 9), (q5, ka cA 9), (q6, ka cA 9), (q7, ka cA 9), (q8, ka cA 6), (q9, ka cA 6), (q10, ka cA 6), (q11, .inr (0, [kz, .ref q12, .ref q13, .ref q14, .ref q15, .ref q16, .ref q17, kz, .ref q18, .ref q19, .ref q20, kz])), (q12, ka cA 9), (q13, ka cA 9), (q14, ka cA 9), (q15, ka cA 9), (q16, ka cA 9), (q17, ka cA 9), (q18, ka cA 6), (q19, ka cA 6), (q20, ka cA 6), (q21, .inr (0, [kz, .ref q22, .ref q23, .ref q24, .ref q25, .ref q26, .ref q27, kz, .ref q28, .ref q29, .ref q30, kz])), (q22, ka cA 9), (q23, ka cA 9), (q24, ka cA 9), (q25, ka cA 9), (q26, ka cA 9), (q27, ka cA 9), (q28, ka cA 6), (q29, ka cA 6), (q30, ka cA 6), (q31, .inr (1, [.ref q32, kz])), (q32, ka cA 96), (q33, .inr (2, [.ref q34, .ref q35])), (q34, ka cA 9), (q35, ka cA 7), (q36, ka cA 16), (q37, ka cA 7)]) (va_A [(h0, .inr (3, [.null, .null, .null, kz, .null, .null, .null, kz, .null]))] sz)) 37 391 (va_A [(h0, .inr (3, [.null, .null, .null, kz, .null, .null, .null, kz, .null]))] sz) := by
  refine Met.ofW (cc := cX4_init) (maxL := 1) (ret := none) (by decide) rfl ?_
  intro p e s m args below meth c s₁ B hml hv
  obtain ⟨rfl, hsz, hP, hK, hD0⟩ := hv
  have hx := B.exec
  have hb := B.bytes
  have hr := B.returns
  have hts0 := atoms_spec (ws := Cond.code yX4_init cX4_init 1 none :: kq_tb) B.pre
  have hts : ∀ w ∈ kq_tb, w.before _ s = true := fun w hw => hts0 w (List.mem_cons_of_mem _ hw)
  have hown : s.vm.findClass RX4 = some m.cls := findClass_of_methodNamed B.named
  have hlocks := B.notSynchronized
  have hin : meth.name = "<init>" := (name_of_methodNamed B.named B.method).1
  subst hsz
  have hD := hD0.self (sz := s.heap.size)
  generalize hAe : va_A [(h0, .inr (3, [.null, .null, .null, kz, .null, .null, .null, kz, .null]))] s.heap.size = A at hD ⊢
  have hA : ∀ q : Nat, s.heap.size ≤ q → A q := fun q h => by rw [← hAe]; exact Or.inr h
  have hS : va_S A s.heap s.heap [] := va_S.rf
  have hP : va_P D vwCl [(h0, .inr (3, [.null, .null, .null, kz, .null, .null, .null, kz, .null]))] s.heap := hP
  have hl := lv_entry ([.ref h0]) (n := 1) (Nat.le_of_ble_eq_true rfl)
  rw [lg_entry_eq]
  generalize (lg_sl ([.ref h0]) ++ List.replicate (1 - (lg_sl ([.ref h0])).length) Slot.unset).toArray = ls at hl ⊢
  have hl : lv_has ls 1 [(0, .ref h0)] := hl
  refine lv_aload_n hx hb dX4_init_0 rfl (lv_at hl 0 rfl) ?_
  refine W.objInit hx hb hown (hts _ ol_X4) (hts _ oi_i) (hts _ oi_c) rfl (by rw [hml]; exact hl.1) rfl dX4_init_1 (Nat.le_of_ble_eq_true rfl) (Nat.le_of_ble_eq_true rfl) ?_
  refine W.eq (g2 := F0 m 4 ls []) rfl ?_
  refine lv_aload_n hx hb dX4_init_4 rfl (lv_at hl 0 rfl) ?_
  refine va_new (ci := 0) (fs := [kz, .null, .null, .null, .null, .null, .null, kz, .null, .null, .null, kz]) (C := RX0) (T := TX0) (N := 12) hx hb hts cf_X0.2.1 tyX0 tyX0_ok hown (hts _ cl_X4_7) (hts _ in_X0) (hts _ iz_X0) hK hP hD hS hA rfl (fun j hj => by rcases (show j = 0 ∨ j = 1 ∨ j = 2 ∨ j = 3 ∨ j = 4 ∨ j = 5 ∨ j = 6 ∨ j = 7 ∨ j = 8 ∨ j = 9 ∨ j = 10 ∨ j = 11 by omega) with rfl | rfl | rfl | rfl | rfl | rfl | rfl | rfl | rfl | rfl | rfl | rfl <;> rfl) (Nat.le_of_ble_eq_true rfl) (Nat.le_of_ble_eq_true rfl) dX4_init_5 (fun q1 H hP hD hS => ?_)
  have hP : va_P D vwCl [(h0, .inr (3, [.null, .null, .null, kz, .null, .null, .null, kz, .null])), (q1, .inr (0, [kz, .null, .null, .null, .null, .null, .null, kz, .null, .null, .null, kz]))] H := hP
  have hD : va_D A [(h0, .inr (3, [.null, .null, .null, kz, .null, .null, .null, kz, .null])), (q1, .inr (0, [kz, .null, .null, .null, .null, .null, .null, kz, .null, .null, .null, kz]))] := hD
  refine W.widen (k := 1) (n := 12) (by omega) (by omega) ?_
  refine lv_dup hx hb dX4_init_8 rfl ?_
  have hPc := hP.sub (ws' := [(q1, .inr (0, [kz, .null, .null, .null, .null, .null, .null, kz, .null, .null, .null, kz]))]) [1] rfl
  have hDc := hD.sub (ws' := [(q1, .inr (0, [kz, .null, .null, .null, .null, .null, .null, kz, .null, .null, .null, kz]))]) [1] (by decide) rfl
  have hFc := va_free (wc := [(q1, .inr (0, [kz, .null, .null, .null, .null, .null, .null, kz, .null, .null, .null, kz]))]) hD hS hA [1] rfl
  refine va_callv (va_runI (As := []) (rest := [.ref q1, .ref h0]) ⟨hx, hb, hml, hown, hts⟩ (c_X0_init l D cA q1 H.size) (cwI 0 hts gi_X0 rfl rfl rfl (hts _ iz_X0) (hts _ il_X4_9) (hts _ im_X0) rfl (by decide +kernel) ⟨Nat.le_of_ble_eq_true rfl, Nat.le_of_ble_eq_true rfl⟩) ⟨fun a U g mk q => by obtain ⟨q0, q1, qP, qK, qD⟩ := q; exact ⟨q0, q1, qP, va_K.moved (u := U) (U := U.calling g mk a) (Vm.Alike.refl U.vm) qK, qD⟩, fun U hU hW => ⟨rfl, by rw [hU], by rw [hU]; exact hPc, va_K.moved hW.alike hK, hDc.weaken (fun _ _ _ _ => trivial)⟩⟩ rfl rfl hl.1 rfl (lv_room (Nat.le_of_ble_eq_true rfl)) dX4_init_9 ⟨Nat.le_of_ble_eq_true rfl, Nat.le_of_ble_eq_true rfl⟩) hS (fun q _ h => hFc q h) hFc (fun u t H1 locs ht hvm h5 hB hz1 hk1 hS => ?_)
  obtain ⟨q2, q3, q4, q5, q6, q7, q8, q9, q10, hP1, hD1⟩ := hB
  rw [ht] at hP1
  obtain ⟨hP, hD⟩ := va_join (wr := [(h0, .inr (3, [.null, .null, .null, kz, .null, .null, .null, kz, .null]))]) (w1 := [(q1, .inr (0, [kz, .ref q2, .ref q3, .ref q4, .ref q5, .ref q6, .ref q7, kz, .ref q8, .ref q9, .ref q10, kz])), (q2, ka cA 9), (q3, ka cA 9), (q4, ka cA 9), (q5, ka cA 9), (q6, ka cA 9), (q7, ka cA 9), (q8, ka cA 6), (q9, ka cA 6), (q10, ka cA 6)]) hP hD [1] [0] rfl rfl (by decide) (by decide) hk1 hFc hP1 hD1
  clear hPc hDc hFc hP1 hD1 ht hvm hk1 hz1 h5
  generalize H1 = H at hP hS ⊢
  have hP : va_P D vwCl [(h0, .inr (3, [.null, .null, .null, kz, .null, .null, .null, kz, .null])), (q1, .inr (0, [kz, .ref q2, .ref q3, .ref q4, .ref q5, .ref q6, .ref q7, kz, .ref q8, .ref q9, .ref q10, kz])), (q2, ka cA 9), (q3, ka cA 9), (q4, ka cA 9), (q5, ka cA 9), (q6, ka cA 9), (q7, ka cA 9), (q8, ka cA 6), (q9, ka cA 6), (q10, ka cA 6)] H := hP
  have hD : va_D A [(h0, .inr (3, [.null, .null, .null, kz, .null, .null, .null, kz, .null])), (q1, .inr (0, [kz, .ref q2, .ref q3, .ref q4, .ref q5, .ref q6, .ref q7, kz, .ref q8, .ref q9, .ref q10, kz])), (q2, ka cA 9), (q3, ka cA 9), (q4, ka cA 9), (q5, ka cA 9), (q6, ka cA 9), (q7, ka cA 9), (q8, ka cA 6), (q9, ka cA 6), (q10, ka cA 6)] := hD
  refine W.widen (k := 10) (n := 84) (by omega) (by omega) ?_
  refine va_putF (D := D) (ci := 3) (v := .ref q1) (ty := (.object "DoorKeepsQuarrel$House")) (C := RX4) (T := TX4) (N := 9) hx hb hts cf_X4.2.1 tyX4 tyX4_ok nmX4 hown hK hP hD hS 0 rfl rfl 0 (by decide) (hts _ fk_X4_10) (fun _ h9 => h9) rfl hin rfl (by decide +kernel) rfl rfl (Nat.le_of_ble_eq_true rfl) dX4_init_12 (fun H locs hP hD hS => ?_)
  have hP : va_P D vwCl [(h0, .inr (3, [.ref q1, .null, .null, kz, .null, .null, .null, kz, .null])), (q1, .inr (0, [kz, .ref q2, .ref q3, .ref q4, .ref q5, .ref q6, .ref q7, kz, .ref q8, .ref q9, .ref q10, kz])), (q2, ka cA 9), (q3, ka cA 9), (q4, ka cA 9), (q5, ka cA 9), (q6, ka cA 9), (q7, ka cA 9), (q8, ka cA 6), (q9, ka cA 6), (q10, ka cA 6)] H := hP
  have hD : va_D A [(h0, .inr (3, [.ref q1, .null, .null, kz, .null, .null, .null, kz, .null])), (q1, .inr (0, [kz, .ref q2, .ref q3, .ref q4, .ref q5, .ref q6, .ref q7, kz, .ref q8, .ref q9, .ref q10, kz])), (q2, ka cA 9), (q3, ka cA 9), (q4, ka cA 9), (q5, ka cA 9), (q6, ka cA 9), (q7, ka cA 9), (q8, ka cA 6), (q9, ka cA 6), (q10, ka cA 6)] := hD
  refine lv_aload_n hx hb dX4_init_15 rfl (lv_at hl 0 rfl) ?_
  refine va_new (ci := 0) (fs := [kz, .null, .null, .null, .null, .null, .null, kz, .null, .null, .null, kz]) (C := RX0) (T := TX0) (N := 12) hx hb hts cf_X0.2.1 tyX0 tyX0_ok hown (hts _ cl_X4_7) (hts _ in_X0) (hts _ iz_X0) hK hP hD hS hA rfl (fun j hj => by rcases (show j = 0 ∨ j = 1 ∨ j = 2 ∨ j = 3 ∨ j = 4 ∨ j = 5 ∨ j = 6 ∨ j = 7 ∨ j = 8 ∨ j = 9 ∨ j = 10 ∨ j = 11 by omega) with rfl | rfl | rfl | rfl | rfl | rfl | rfl | rfl | rfl | rfl | rfl | rfl <;> rfl) (Nat.le_of_ble_eq_true rfl) (Nat.le_of_ble_eq_true rfl) dX4_init_16 (fun q11 H hP hD hS => ?_)
  have hP : va_P D vwCl [(h0, .inr (3, [.ref q1, .null, .null, kz, .null, .null, .null, kz, .null])), (q1, .inr (0, [kz, .ref q2, .ref q3, .ref q4, .ref q5, .ref q6, .ref q7, kz, .ref q8, .ref q9, .ref q10, kz])), (q2, ka cA 9), (q3, ka cA 9), (q4, ka cA 9), (q5, ka cA 9), (q6, ka cA 9), (q7, ka cA 9), (q8, ka cA 6), (q9, ka cA 6), (q10, ka cA 6), (q11, .inr (0, [kz, .null, .null, .null, .null, .null, .null, kz, .null, .null, .null, kz]))] H := hP
  have hD : va_D A [(h0, .inr (3, [.ref q1, .null, .null, kz, .null, .null, .null, kz, .null])), (q1, .inr (0, [kz, .ref q2, .ref q3, .ref q4, .ref q5, .ref q6, .ref q7, kz, .ref q8, .ref q9, .ref q10, kz])), (q2, ka cA 9), (q3, ka cA 9), (q4, ka cA 9), (q5, ka cA 9), (q6, ka cA 9), (q7, ka cA 9), (q8, ka cA 6), (q9, ka cA 6), (q10, ka cA 6), (q11, .inr (0, [kz, .null, .null, .null, .null, .null, .null, kz, .null, .null, .null, kz]))] := hD
  refine W.widen (k := 11) (n := 96) (by omega) (by omega) ?_
  refine lv_dup hx hb dX4_init_19 rfl ?_
  have hPc := hP.sub (ws' := [(q11, .inr (0, [kz, .null, .null, .null, .null, .null, .null, kz, .null, .null, .null, kz]))]) [11] rfl
  have hDc := hD.sub (ws' := [(q11, .inr (0, [kz, .null, .null, .null, .null, .null, .null, kz, .null, .null, .null, kz]))]) [11] (by decide) rfl
  have hFc := va_free (wc := [(q11, .inr (0, [kz, .null, .null, .null, .null, .null, .null, kz, .null, .null, .null, kz]))]) hD hS hA [11] rfl
  refine va_callv (va_runI (As := []) (rest := [.ref q11, .ref h0]) ⟨hx, hb, hml, hown, hts⟩ (c_X0_init l D cA q11 H.size) (cwI 0 hts gi_X0 rfl rfl rfl (hts _ iz_X0) (hts _ il_X4_9) (hts _ im_X0) rfl (by decide +kernel) ⟨Nat.le_of_ble_eq_true rfl, Nat.le_of_ble_eq_true rfl⟩) ⟨fun a U g mk q => by obtain ⟨q0, q1, qP, qK, qD⟩ := q; exact ⟨q0, q1, qP, va_K.moved (u := U) (U := U.calling g mk a) (Vm.Alike.refl U.vm) qK, qD⟩, fun U hU hW => ⟨rfl, by rw [hU], by rw [hU]; exact hPc, va_K.moved hW.alike hK, hDc.weaken (fun _ _ _ _ => trivial)⟩⟩ rfl rfl hl.1 rfl (lv_room (Nat.le_of_ble_eq_true rfl)) dX4_init_20 ⟨Nat.le_of_ble_eq_true rfl, Nat.le_of_ble_eq_true rfl⟩) hS (fun q _ h => hFc q h) hFc (fun u t H1 locs ht hvm h5 hB hz1 hk1 hS => ?_)
  obtain ⟨q12, q13, q14, q15, q16, q17, q18, q19, q20, hP1, hD1⟩ := hB
  rw [ht] at hP1
  obtain ⟨hP, hD⟩ := va_join (wr := [(h0, .inr (3, [.ref q1, .null, .null, kz, .null, .null, .null, kz, .null])), (q1, .inr (0, [kz, .ref q2, .ref q3, .ref q4, .ref q5, .ref q6, .ref q7, kz, .ref q8, .ref q9, .ref q10, kz])), (q2, ka cA 9), (q3, ka cA 9), (q4, ka cA 9), (q5, ka cA 9), (q6, ka cA 9), (q7, ka cA 9), (q8, ka cA 6), (q9, ka cA 6), (q10, ka cA 6)]) (w1 := [(q11, .inr (0, [kz, .ref q12, .ref q13, .ref q14, .ref q15, .ref q16, .ref q17, kz, .ref q18, .ref q19, .ref q20, kz])), (q12, ka cA 9), (q13, ka cA 9), (q14, ka cA 9), (q15, ka cA 9), (q16, ka cA 9), (q17, ka cA 9), (q18, ka cA 6), (q19, ka cA 6), (q20, ka cA 6)]) hP hD [11] [0, 1, 2, 3, 4, 5, 6, 7, 8, 9, 10] rfl rfl (by decide) (by decide) hk1 hFc hP1 hD1
  clear hPc hDc hFc hP1 hD1 ht hvm hk1 hz1 h5
  generalize H1 = H at hP hS ⊢
  have hP : va_P D vwCl [(h0, .inr (3, [.ref q1, .null, .null, kz, .null, .null, .null, kz, .null])), (q1, .inr (0, [kz, .ref q2, .ref q3, .ref q4, .ref q5, .ref q6, .ref q7, kz, .ref q8, .ref q9, .ref q10, kz])), (q2, ka cA 9), (q3, ka cA 9), (q4, ka cA 9), (q5, ka cA 9), (q6, ka cA 9), (q7, ka cA 9), (q8, ka cA 6), (q9, ka cA 6), (q10, ka cA 6), (q11, .inr (0, [kz, .ref q12, .ref q13, .ref q14, .ref q15, .ref q16, .ref q17, kz, .ref q18, .ref q19, .ref q20, kz])), (q12, ka cA 9), (q13, ka cA 9), (q14, ka cA 9), (q15, ka cA 9), (q16, ka cA 9), (q17, ka cA 9), (q18, ka cA 6), (q19, ka cA 6), (q20, ka cA 6)] H := hP
  have hD : va_D A [(h0, .inr (3, [.ref q1, .null, .null, kz, .null, .null, .null, kz, .null])), (q1, .inr (0, [kz, .ref q2, .ref q3, .ref q4, .ref q5, .ref q6, .ref q7, kz, .ref q8, .ref q9, .ref q10, kz])), (q2, ka cA 9), (q3, ka cA 9), (q4, ka cA 9), (q5, ka cA 9), (q6, ka cA 9), (q7, ka cA 9), (q8, ka cA 6), (q9, ka cA 6), (q10, ka cA 6), (q11, .inr (0, [kz, .ref q12, .ref q13, .ref q14, .ref q15, .ref q16, .ref q17, kz, .ref q18, .ref q19, .ref q20, kz])), (q12, ka cA 9), (q13, ka cA 9), (q14, ka cA 9), (q15, ka cA 9), (q16, ka cA 9), (q17, ka cA 9), (q18, ka cA 6), (q19, ka cA 6), (q20, ka cA 6)] := hD
  refine W.widen (k := 20) (n := 168) (by omega) (by omega) ?_
  refine va_putF (D := D) (ci := 3) (v := .ref q11) (ty := (.object "DoorKeepsQuarrel$House")) (C := RX4) (T := TX4) (N := 9) hx hb hts cf_X4.2.1 tyX4 tyX4_ok nmX4 hown hK hP hD hS 0 rfl rfl 1 (by decide) (hts _ fk_X4_16) (fun _ h9 => h9) rfl hin rfl (by decide +kernel) rfl rfl (Nat.le_of_ble_eq_true rfl) dX4_init_23 (fun H locs hP hD hS => ?_)
  have hP : va_P D vwCl [(h0, .inr (3, [.ref q1, .ref q11, .null, kz, .null, .null, .null, kz, .null])), (q1, .inr (0, [kz, .ref q2, .ref q3, .ref q4, .ref q5, .ref q6, .ref q7, kz, .ref q8, .ref q9, .ref q10, kz])), (q2, ka cA 9), (q3, ka cA 9), (q4, ka cA 9), (q5, ka cA 9), (q6, ka cA 9), (q7, ka cA 9), (q8, ka cA 6), (q9, ka cA 6), (q10, ka cA 6), (q11, .inr (0, [kz, .ref q12, .ref q13, .ref q14, .ref q15, .ref q16, .ref q17, kz, .ref q18, .ref q19, .ref q20, kz])), (q12, ka cA 9), (q13, ka cA 9), (q14, ka cA 9), (q15, ka cA 9), (q16, ka cA 9), (q17, ka cA 9), (q18, ka cA 6), (q19, ka cA 6), (q20, ka cA 6)] H := hP
  have hD : va_D A [(h0, .inr (3, [.ref q1, .ref q11, .null, kz, .null, .null, .null, kz, .null])), (q1, .inr (0, [kz, .ref q2, .ref q3, .ref q4, .ref q5, .ref q6, .ref q7, kz, .ref q8, .ref q9, .ref q10, kz])), (q2, ka cA 9), (q3, ka cA 9), (q4, ka cA 9), (q5, ka cA 9), (q6, ka cA 9), (q7, ka cA 9), (q8, ka cA 6), (q9, ka cA 6), (q10, ka cA 6), (q11, .inr (0, [kz, .ref q12, .ref q13, .ref q14, .ref q15, .ref q16, .ref q17, kz, .ref q18, .ref q19, .ref q20, kz])), (q12, ka cA 9), (q13, ka cA 9), (q14, ka cA 9), (q15, ka cA 9), (q16, ka cA 9), (q17, ka cA 9), (q18, ka cA 6), (q19, ka cA 6), (q20, ka cA 6)] := hD
  refine lv_aload_n hx hb dX4_init_26 rfl (lv_at hl 0 rfl) ?_
  refine va_new (ci := 0) (fs := [kz, .null, .null, .null, .null, .null, .null, kz, .null, .null, .null, kz]) (C := RX0) (T := TX0) (N := 12) hx hb hts cf_X0.2.1 tyX0 tyX0_ok hown (hts _ cl_X4_7) (hts _ in_X0) (hts _ iz_X0) hK hP hD hS hA rfl (fun j hj => by rcases (show j = 0 ∨ j = 1 ∨ j = 2 ∨ j = 3 ∨ j = 4 ∨ j = 5 ∨ j = 6 ∨ j = 7 ∨ j = 8 ∨ j = 9 ∨ j = 10 ∨ j = 11 by omega) with rfl | rfl | rfl | rfl | rfl | rfl | rfl | rfl | rfl | rfl | rfl | rfl <;> rfl) (Nat.le_of_ble_eq_true rfl) (Nat.le_of_ble_eq_true rfl) dX4_init_27 (fun q21 H hP hD hS => ?_)
  have hP : va_P D vwCl [(h0, .inr (3, [.ref q1, .ref q11, .null, kz, .null, .null, .null, kz, .null])), (q1, .inr (0, [kz, .ref q2, .ref q3, .ref q4, .ref q5, .ref q6, .ref q7, kz, .ref q8, .ref q9, .ref q10, kz])), (q2, ka cA 9), (q3, ka cA 9), (q4, ka cA 9), (q5, ka cA 9), (q6, ka cA 9), (q7, ka cA 9), (q8, ka cA 6), (q9, ka cA 6), (q10, ka cA 6), (q11, .inr (0, [kz, .ref q12, .ref q13, .ref q14, .ref q15, .ref q16, .ref q17, kz, .ref q18, .ref q19, .ref q20, kz])), (q12, ka cA 9), (q13, ka cA 9), (q14, ka cA 9), (q15, ka cA 9), (q16, ka cA 9), (q17, ka cA 9), (q18, ka cA 6), (q19, ka cA 6), (q20, ka cA 6), (q21, .inr (0, [kz, .null, .null, .null, .null, .null, .null, kz, .null, .null, .null, kz]))] H := hP
  have hD : va_D A [(h0, .inr (3, [.ref q1, .ref q11, .null, kz, .null, .null, .null, kz, .null])), (q1, .inr (0, [kz, .ref q2, .ref q3, .ref q4, .ref q5, .ref q6, .ref q7, kz, .ref q8, .ref q9, .ref q10, kz])), (q2, ka cA 9), (q3, ka cA 9), (q4, ka cA 9), (q5, ka cA 9), (q6, ka cA 9), (q7, ka cA 9), (q8, ka cA 6), (q9, ka cA 6), (q10, ka cA 6), (q11, .inr (0, [kz, .ref q12, .ref q13, .ref q14, .ref q15, .ref q16, .ref q17, kz, .ref q18, .ref q19, .ref q20, kz])), (q12, ka cA 9), (q13, ka cA 9), (q14, ka cA 9), (q15, ka cA 9), (q16, ka cA 9), (q17, ka cA 9), (q18, ka cA 6), (q19, ka cA 6), (q20, ka cA 6), (q21, .inr (0, [kz, .null, .null, .null, .null, .null, .null, kz, .null, .null, .null, kz]))] := hD
  refine W.widen (k := 21) (n := 180) (by omega) (by omega) ?_
  refine lv_dup hx hb dX4_init_30 rfl ?_
  have hPc := hP.sub (ws' := [(q21, .inr (0, [kz, .null, .null, .null, .null, .null, .null, kz, .null, .null, .null, kz]))]) [21] rfl
  have hDc := hD.sub (ws' := [(q21, .inr (0, [kz, .null, .null, .null, .null, .null, .null, kz, .null, .null, .null, kz]))]) [21] (by decide) rfl
  have hFc := va_free (wc := [(q21, .inr (0, [kz, .null, .null, .null, .null, .null, .null, kz, .null, .null, .null, kz]))]) hD hS hA [21] rfl
  refine va_callv (va_runI (As := []) (rest := [.ref q21, .ref h0]) ⟨hx, hb, hml, hown, hts⟩ (c_X0_init l D cA q21 H.size) (cwI 0 hts gi_X0 rfl rfl rfl (hts _ iz_X0) (hts _ il_X4_9) (hts _ im_X0) rfl (by decide +kernel) ⟨Nat.le_of_ble_eq_true rfl, Nat.le_of_ble_eq_true rfl⟩) ⟨fun a U g mk q => by obtain ⟨q0, q1, qP, qK, qD⟩ := q; exact ⟨q0, q1, qP, va_K.moved (u := U) (U := U.calling g mk a) (Vm.Alike.refl U.vm) qK, qD⟩, fun U hU hW => ⟨rfl, by rw [hU], by rw [hU]; exact hPc, va_K.moved hW.alike hK, hDc.weaken (fun _ _ _ _ => trivial)⟩⟩ rfl rfl hl.1 rfl (lv_room (Nat.le_of_ble_eq_true rfl)) dX4_init_31 ⟨Nat.le_of_ble_eq_true rfl, Nat.le_of_ble_eq_true rfl⟩) hS (fun q _ h => hFc q h) hFc (fun u t H1 locs ht hvm h5 hB hz1 hk1 hS => ?_)
  obtain ⟨q22, q23, q24, q25, q26, q27, q28, q29, q30, hP1, hD1⟩ := hB
  rw [ht] at hP1
  obtain ⟨hP, hD⟩ := va_join (wr := [(h0, .inr (3, [.ref q1, .ref q11, .null, kz, .null, .null, .null, kz, .null])), (q1, .inr (0, [kz, .ref q2, .ref q3, .ref q4, .ref q5, .ref q6, .ref q7, kz, .ref q8, .ref q9, .ref q10, kz])), (q2, ka cA 9), (q3, ka cA 9), (q4, ka cA 9), (q5, ka cA 9), (q6, ka cA 9), (q7, ka cA 9), (q8, ka cA 6), (q9, ka cA 6), (q10, ka cA 6), (q11, .inr (0, [kz, .ref q12, .ref q13, .ref q14, .ref q15, .ref q16, .ref q17, kz, .ref q18, .ref q19, .ref q20, kz])), (q12, ka cA 9), (q13, ka cA 9), (q14, ka cA 9), (q15, ka cA 9), (q16, ka cA 9), (q17, ka cA 9), (q18, ka cA 6), (q19, ka cA 6), (q20, ka cA 6)]) (w1 := [(q21, .inr (0, [kz, .ref q22, .ref q23, .ref q24, .ref q25, .ref q26, .ref q27, kz, .ref q28, .ref q29, .ref q30, kz])), (q22, ka cA 9), (q23, ka cA 9), (q24, ka cA 9), (q25, ka cA 9), (q26, ka cA 9), (q27, ka cA 9), (q28, ka cA 6), (q29, ka cA 6), (q30, ka cA 6)]) hP hD [21] [0, 1, 2, 3, 4, 5, 6, 7, 8, 9, 10, 11, 12, 13, 14, 15, 16, 17, 18, 19, 20] rfl rfl (by decide) (by decide) hk1 hFc hP1 hD1
  clear hPc hDc hFc hP1 hD1 ht hvm hk1 hz1 h5
  generalize H1 = H at hP hS ⊢
  have hP : va_P D vwCl [(h0, .inr (3, [.ref q1, .ref q11, .null, kz, .null, .null, .null, kz, .null])), (q1, .inr (0, [kz, .ref q2, .ref q3, .ref q4, .ref q5, .ref q6, .ref q7, kz, .ref q8, .ref q9, .ref q10, kz])), (q2, ka cA 9), (q3, ka cA 9), (q4, ka cA 9), (q5, ka cA 9), (q6, ka cA 9), (q7, ka cA 9), (q8, ka cA 6), (q9, ka cA 6), (q10, ka cA 6), (q11, .inr (0, [kz, .ref q12, .ref q13, .ref q14, .ref q15, .ref q16, .ref q17, kz, .ref q18, .ref q19, .ref q20, kz])), (q12, ka cA 9), (q13, ka cA 9), (q14, ka cA 9), (q15, ka cA 9), (q16, ka cA 9), (q17, ka cA 9), (q18, ka cA 6), (q19, ka cA 6), (q20, ka cA 6), (q21, .inr (0, [kz, .ref q22, .ref q23, .ref q24, .ref q25, .ref q26, .ref q27, kz, .ref q28, .ref q29, .ref q30, kz])), (q22, ka cA 9), (q23, ka cA 9), (q24, ka cA 9), (q25, ka cA 9), (q26, ka cA 9), (q27, ka cA 9), (q28, ka cA 6), (q29, ka cA 6), (q30, ka cA 6)] H := hP
  have hD : va_D A [(h0, .inr (3, [.ref q1, .ref q11, .null, kz, .null, .null, .null, kz, .null])), (q1, .inr (0, [kz, .ref q2, .ref q3, .ref q4, .ref q5, .ref q6, .ref q7, kz, .ref q8, .ref q9, .ref q10, kz])), (q2, ka cA 9), (q3, ka cA 9), (q4, ka cA 9), (q5, ka cA 9), (q6, ka cA 9), (q7, ka cA 9), (q8, ka cA 6), (q9, ka cA 6), (q10, ka cA 6), (q11, .inr (0, [kz, .ref q12, .ref q13, .ref q14, .ref q15, .ref q16, .ref q17, kz, .ref q18, .ref q19, .ref q20, kz])), (q12, ka cA 9), (q13, ka cA 9), (q14, ka cA 9), (q15, ka cA 9), (q16, ka cA 9), (q17, ka cA 9), (q18, ka cA 6), (q19, ka cA 6), (q20, ka cA 6), (q21, .inr (0, [kz, .ref q22, .ref q23, .ref q24, .ref q25, .ref q26, .ref q27, kz, .ref q28, .ref q29, .ref q30, kz])), (q22, ka cA 9), (q23, ka cA 9), (q24, ka cA 9), (q25, ka cA 9), (q26, ka cA 9), (q27, ka cA 9), (q28, ka cA 6), (q29, ka cA 6), (q30, ka cA 6)] := hD
  refine W.widen (k := 30) (n := 252) (by omega) (by omega) ?_
  refine va_putF (D := D) (ci := 3) (v := .ref q21) (ty := (.object "DoorKeepsQuarrel$House")) (C := RX4) (T := TX4) (N := 9) hx hb hts cf_X4.2.1 tyX4 tyX4_ok nmX4 hown hK hP hD hS 0 rfl rfl 2 (by decide) (hts _ fk_X4_19) (fun _ h9 => h9) rfl hin rfl (by decide +kernel) rfl rfl (Nat.le_of_ble_eq_true rfl) dX4_init_34 (fun H locs hP hD hS => ?_)
  have hP : va_P D vwCl [(h0, .inr (3, [.ref q1, .ref q11, .ref q21, kz, .null, .null, .null, kz, .null])), (q1, .inr (0, [kz, .ref q2, .ref q3, .ref q4, .ref q5, .ref q6, .ref q7, kz, .ref q8, .ref q9, .ref q10, kz])), (q2, ka cA 9), (q3, ka cA 9), (q4, ka cA 9), (q5, ka cA 9), (q6, ka cA 9), (q7, ka cA 9), (q8, ka cA 6), (q9, ka cA 6), (q10, ka cA 6), (q11, .inr (0, [kz, .ref q12, .ref q13, .ref q14, .ref q15, .ref q16, .ref q17, kz, .ref q18, .ref q19, .ref q20, kz])), (q12, ka cA 9), (q13, ka cA 9), (q14, ka cA 9), (q15, ka cA 9), (q16, ka cA 9), (q17, ka cA 9), (q18, ka cA 6), (q19, ka cA 6), (q20, ka cA 6), (q21, .inr (0, [kz, .ref q22, .ref q23, .ref q24, .ref q25, .ref q26, .ref q27, kz, .ref q28, .ref q29, .ref q30, kz])), (q22, ka cA 9), (q23, ka cA 9), (q24, ka cA 9), (q25, ka cA 9), (q26, ka cA 9), (q27, ka cA 9), (q28, ka cA 6), (q29, ka cA 6), (q30, ka cA 6)] H := hP
  have hD : va_D A [(h0, .inr (3, [.ref q1, .ref q11, .ref q21, kz, .null, .null, .null, kz, .null])), (q1, .inr (0, [kz, .ref q2, .ref q3, .ref q4, .ref q5, .ref q6, .ref q7, kz, .ref q8, .ref q9, .ref q10, kz])), (q2, ka cA 9), (q3, ka cA 9), (q4, ka cA 9), (q5, ka cA 9), (q6, ka cA 9), (q7, ka cA 9), (q8, ka cA 6), (q9, ka cA 6), (q10, ka cA 6), (q11, .inr (0, [kz, .ref q12, .ref q13, .ref q14, .ref q15, .ref q16, .ref q17, kz, .ref q18, .ref q19, .ref q20, kz])), (q12, ka cA 9), (q13, ka cA 9), (q14, ka cA 9), (q15, ka cA 9), (q16, ka cA 9), (q17, ka cA 9), (q18, ka cA 6), (q19, ka cA 6), (q20, ka cA 6), (q21, .inr (0, [kz, .ref q22, .ref q23, .ref q24, .ref q25, .ref q26, .ref q27, kz, .ref q28, .ref q29, .ref q30, kz])), (q22, ka cA 9), (q23, ka cA 9), (q24, ka cA 9), (q25, ka cA 9), (q26, ka cA 9), (q27, ka cA 9), (q28, ka cA 6), (q29, ka cA 6), (q30, ka cA 6)] := hD
  refine lv_aload_n hx hb dX4_init_37 rfl (lv_at hl 0 rfl) ?_
  refine lv_iconst (v := Int32.ofInt 0) hx hb dX4_init_38 rfl ?_
  refine va_put (D := D) (ci := 3) (v := kz) (ty := .boolean) (C := RX4) (T := TX4) (N := 9) hx hb hts cf_X4.2.1 tyX4 tyX4_ok nmX4 hown hK hP hD hS 0 rfl rfl 3 (by decide) (hts _ fk_X4_22) (fun _ h9 => h9) rfl (by decide +kernel) rfl rfl (Nat.le_of_ble_eq_true rfl) dX4_init_39 (fun H locs hP hD hS => ?_)
  have hP : va_P D vwCl [(h0, .inr (3, [.ref q1, .ref q11, .ref q21, kz, .null, .null, .null, kz, .null])), (q1, .inr (0, [kz, .ref q2, .ref q3, .ref q4, .ref q5, .ref q6, .ref q7, kz, .ref q8, .ref q9, .ref q10, kz])), (q2, ka cA 9), (q3, ka cA 9), (q4, ka cA 9), (q5, ka cA 9), (q6, ka cA 9), (q7, ka cA 9), (q8, ka cA 6), (q9, ka cA 6), (q10, ka cA 6), (q11, .inr (0, [kz, .ref q12, .ref q13, .ref q14, .ref q15, .ref q16, .ref q17, kz, .ref q18, .ref q19, .ref q20, kz])), (q12, ka cA 9), (q13, ka cA 9), (q14, ka cA 9), (q15, ka cA 9), (q16, ka cA 9), (q17, ka cA 9), (q18, ka cA 6), (q19, ka cA 6), (q20, ka cA 6), (q21, .inr (0, [kz, .ref q22, .ref q23, .ref q24, .ref q25, .ref q26, .ref q27, kz, .ref q28, .ref q29, .ref q30, kz])), (q22, ka cA 9), (q23, ka cA 9), (q24, ka cA 9), (q25, ka cA 9), (q26, ka cA 9), (q27, ka cA 9), (q28, ka cA 6), (q29, ka cA 6), (q30, ka cA 6)] H := hP
  have hD : va_D A [(h0, .inr (3, [.ref q1, .ref q11, .ref q21, kz, .null, .null, .null, kz, .null])), (q1, .inr (0, [kz, .ref q2, .ref q3, .ref q4, .ref q5, .ref q6, .ref q7, kz, .ref q8, .ref q9, .ref q10, kz])), (q2, ka cA 9), (q3, ka cA 9), (q4, ka cA 9), (q5, ka cA 9), (q6, ka cA 9), (q7, ka cA 9), (q8, ka cA 6), (q9, ka cA 6), (q10, ka cA 6), (q11, .inr (0, [kz, .ref q12, .ref q13, .ref q14, .ref q15, .ref q16, .ref q17, kz, .ref q18, .ref q19, .ref q20, kz])), (q12, ka cA 9), (q13, ka cA 9), (q14, ka cA 9), (q15, ka cA 9), (q16, ka cA 9), (q17, ka cA 9), (q18, ka cA 6), (q19, ka cA 6), (q20, ka cA 6), (q21, .inr (0, [kz, .ref q22, .ref q23, .ref q24, .ref q25, .ref q26, .ref q27, kz, .ref q28, .ref q29, .ref q30, kz])), (q22, ka cA 9), (q23, ka cA 9), (q24, ka cA 9), (q25, ka cA 9), (q26, ka cA 9), (q27, ka cA 9), (q28, ka cA 6), (q29, ka cA 6), (q30, ka cA 6)] := hD
  refine lv_aload_n hx hb dX4_init_42 rfl (lv_at hl 0 rfl) ?_
  refine va_new (ci := 1) (fs := [.null, kz]) (C := RX2) (T := TX2) (N := 2) hx hb hts cf_X2.2.1 tyX2 tyX2_ok hown (hts _ cl_X4_26) (hts _ in_X2) (hts _ iz_X2) hK hP hD hS hA rfl (fun j hj => by rcases (show j = 0 ∨ j = 1 by omega) with rfl | rfl <;> rfl) (Nat.le_of_ble_eq_true rfl) (Nat.le_of_ble_eq_true rfl) dX4_init_43 (fun q31 H hP hD hS => ?_)
  have hP : va_P D vwCl [(h0, .inr (3, [.ref q1, .ref q11, .ref q21, kz, .null, .null, .null, kz, .null])), (q1, .inr (0, [kz, .ref q2, .ref q3, .ref q4, .ref q5, .ref q6, .ref q7, kz, .ref q8, .ref q9, .ref q10, kz])), (q2, ka cA 9), (q3, ka cA 9), (q4, ka cA 9), (q5, ka cA 9), (q6, ka cA 9), (q7, ka cA 9), (q8, ka cA 6), (q9, ka cA 6), (q10, ka cA 6), (q11, .inr (0, [kz, .ref q12, .ref q13, .ref q14, .ref q15, .ref q16, .ref q17, kz, .ref q18, .ref q19, .ref q20, kz])), (q12, ka cA 9), (q13, ka cA 9), (q14, ka cA 9), (q15, ka cA 9), (q16, ka cA 9), (q17, ka cA 9), (q18, ka cA 6), (q19, ka cA 6), (q20, ka cA 6), (q21, .inr (0, [kz, .ref q22, .ref q23, .ref q24, .ref q25, .ref q26, .ref q27, kz, .ref q28, .ref q29, .ref q30, kz])), (q22, ka cA 9), (q23, ka cA 9), (q24, ka cA 9), (q25, ka cA 9), (q26, ka cA 9), (q27, ka cA 9), (q28, ka cA 6), (q29, ka cA 6), (q30, ka cA 6), (q31, .inr (1, [.null, kz]))] H := hP
  have hD : va_D A [(h0, .inr (3, [.ref q1, .ref q11, .ref q21, kz, .null, .null, .null, kz, .null])), (q1, .inr (0, [kz, .ref q2, .ref q3, .ref q4, .ref q5, .ref q6, .ref q7, kz, .ref q8, .ref q9, .ref q10, kz])), (q2, ka cA 9), (q3, ka cA 9), (q4, ka cA 9), (q5, ka cA 9), (q6, ka cA 9), (q7, ka cA 9), (q8, ka cA 6), (q9, ka cA 6), (q10, ka cA 6), (q11, .inr (0, [kz, .ref q12, .ref q13, .ref q14, .ref q15, .ref q16, .ref q17, kz, .ref q18, .ref q19, .ref q20, kz])), (q12, ka cA 9), (q13, ka cA 9), (q14, ka cA 9), (q15, ka cA 9), (q16, ka cA 9), (q17, ka cA 9), (q18, ka cA 6), (q19, ka cA 6), (q20, ka cA 6), (q21, .inr (0, [kz, .ref q22, .ref q23, .ref q24, .ref q25, .ref q26, .ref q27, kz, .ref q28, .ref q29, .ref q30, kz])), (q22, ka cA 9), (q23, ka cA 9), (q24, ka cA 9), (q25, ka cA 9), (q26, ka cA 9), (q27, ka cA 9), (q28, ka cA 6), (q29, ka cA 6), (q30, ka cA 6), (q31, .inr (1, [.null, kz]))] := hD
  refine W.widen (k := 31) (n := 254) (by omega) (by omega) ?_
  refine lv_dup hx hb dX4_init_46 rfl ?_
  have hPc := hP.sub (ws' := [(q31, .inr (1, [.null, kz]))]) [31] rfl
  have hDc := hD.sub (ws' := [(q31, .inr (1, [.null, kz]))]) [31] (by decide) rfl
  have hFc := va_free (wc := [(q31, .inr (1, [.null, kz]))]) hD hS hA [31] rfl
  refine va_callv (va_runI (As := []) (rest := [.ref q31, .ref h0]) ⟨hx, hb, hml, hown, hts⟩ (c_X2_init l D cA q31 H.size) (cwI 0 hts gi_X2 rfl rfl rfl (hts _ iz_X2) (hts _ il_X4_28) (hts _ im_X2) rfl (by decide +kernel) ⟨Nat.le_of_ble_eq_true rfl, Nat.le_of_ble_eq_true rfl⟩) ⟨fun a U g mk q => by obtain ⟨q0, q1, qP, qK, qD⟩ := q; exact ⟨q0, q1, qP, va_K.moved (u := U) (U := U.calling g mk a) (Vm.Alike.refl U.vm) qK, qD⟩, fun U hU hW => ⟨rfl, by rw [hU], by rw [hU]; exact hPc, va_K.moved hW.alike hK, hDc.weaken (fun _ _ _ _ => trivial)⟩⟩ rfl rfl hl.1 rfl (lv_room (Nat.le_of_ble_eq_true rfl)) dX4_init_47 ⟨Nat.le_of_ble_eq_true rfl, Nat.le_of_ble_eq_true rfl⟩) hS (fun q _ h => hFc q h) hFc (fun u t H1 locs ht hvm h5 hB hz1 hk1 hS => ?_)
  obtain ⟨q32, hP1, hD1⟩ := hB
  rw [ht] at hP1
  obtain ⟨hP, hD⟩ := va_join (wr := [(h0, .inr (3, [.ref q1, .ref q11, .ref q21, kz, .null, .null, .null, kz, .null])), (q1, .inr (0, [kz, .ref q2, .ref q3, .ref q4, .ref q5, .ref q6, .ref q7, kz, .ref q8, .ref q9, .ref q10, kz])), (q2, ka cA 9), (q3, ka cA 9), (q4, ka cA 9), (q5, ka cA 9), (q6, ka cA 9), (q7, ka cA 9), (q8, ka cA 6), (q9, ka cA 6), (q10, ka cA 6), (q11, .inr (0, [kz, .ref q12, .ref q13, .ref q14, .ref q15, .ref q16, .ref q17, kz, .ref q18, .ref q19, .ref q20, kz])), (q12, ka cA 9), (q13, ka cA 9), (q14, ka cA 9), (q15, ka cA 9), (q16, ka cA 9), (q17, ka cA 9), (q18, ka cA 6), (q19, ka cA 6), (q20, ka cA 6), (q21, .inr (0, [kz, .ref q22, .ref q23, .ref q24, .ref q25, .ref q26, .ref q27, kz, .ref q28, .ref q29, .ref q30, kz])), (q22, ka cA 9), (q23, ka cA 9), (q24, ka cA 9), (q25, ka cA 9), (q26, ka cA 9), (q27, ka cA 9), (q28, ka cA 6), (q29, ka cA 6), (q30, ka cA 6)]) (w1 := [(q31, .inr (1, [.ref q32, kz])), (q32, ka cA 96)]) hP hD [31] [0, 1, 2, 3, 4, 5, 6, 7, 8, 9, 10, 11, 12, 13, 14, 15, 16, 17, 18, 19, 20, 21, 22, 23, 24, 25, 26, 27, 28, 29, 30] rfl rfl (by decide) (by decide) hk1 hFc hP1 hD1
  clear hPc hDc hFc hP1 hD1 ht hvm hk1 hz1 h5
  generalize H1 = H at hP hS ⊢
  have hP : va_P D vwCl [(h0, .inr (3, [.ref q1, .ref q11, .ref q21, kz, .null, .null, .null, kz, .null])), (q1, .inr (0, [kz, .ref q2, .ref q3, .ref q4, .ref q5, .ref q6, .ref q7, kz, .ref q8, .ref q9, .ref q10, kz])), (q2, ka cA 9), (q3, ka cA 9), (q4, ka cA 9), (q5, ka cA 9), (q6, ka cA 9), (q7, ka cA 9), (q8, ka cA 6), (q9, ka cA 6), (q10, ka cA 6), (q11, .inr (0, [kz, .ref q12, .ref q13, .ref q14, .ref q15, .ref q16, .ref q17, kz, .ref q18, .ref q19, .ref q20, kz])), (q12, ka cA 9), (q13, ka cA 9), (q14, ka cA 9), (q15, ka cA 9), (q16, ka cA 9), (q17, ka cA 9), (q18, ka cA 6), (q19, ka cA 6), (q20, ka cA 6), (q21, .inr (0, [kz, .ref q22, .ref q23, .ref q24, .ref q25, .ref q26, .ref q27, kz, .ref q28, .ref q29, .ref q30, kz])), (q22, ka cA 9), (q23, ka cA 9), (q24, ka cA 9), (q25, ka cA 9), (q26, ka cA 9), (q27, ka cA 9), (q28, ka cA 6), (q29, ka cA 6), (q30, ka cA 6), (q31, .inr (1, [.ref q32, kz])), (q32, ka cA 96)] H := hP
  have hD : va_D A [(h0, .inr (3, [.ref q1, .ref q11, .ref q21, kz, .null, .null, .null, kz, .null])), (q1, .inr (0, [kz, .ref q2, .ref q3, .ref q4, .ref q5, .ref q6, .ref q7, kz, .ref q8, .ref q9, .ref q10, kz])), (q2, ka cA 9), (q3, ka cA 9), (q4, ka cA 9), (q5, ka cA 9), (q6, ka cA 9), (q7, ka cA 9), (q8, ka cA 6), (q9, ka cA 6), (q10, ka cA 6), (q11, .inr (0, [kz, .ref q12, .ref q13, .ref q14, .ref q15, .ref q16, .ref q17, kz, .ref q18, .ref q19, .ref q20, kz])), (q12, ka cA 9), (q13, ka cA 9), (q14, ka cA 9), (q15, ka cA 9), (q16, ka cA 9), (q17, ka cA 9), (q18, ka cA 6), (q19, ka cA 6), (q20, ka cA 6), (q21, .inr (0, [kz, .ref q22, .ref q23, .ref q24, .ref q25, .ref q26, .ref q27, kz, .ref q28, .ref q29, .ref q30, kz])), (q22, ka cA 9), (q23, ka cA 9), (q24, ka cA 9), (q25, ka cA 9), (q26, ka cA 9), (q27, ka cA 9), (q28, ka cA 6), (q29, ka cA 6), (q30, ka cA 6), (q31, .inr (1, [.ref q32, kz])), (q32, ka cA 96)] := hD
  refine W.widen (k := 32) (n := 350) (by omega) (by omega) ?_
  refine va_putF (D := D) (ci := 3) (v := .ref q31) (ty := (.object "DoorKeepsQuarrel$Telling")) (C := RX4) (T := TX4) (N := 9) hx hb hts cf_X4.2.1 tyX4 tyX4_ok nmX4 hown hK hP hD hS 0 rfl rfl 4 (by decide) (hts _ fk_X4_29) (fun _ h9 => h9) rfl hin rfl (by decide +kernel) rfl rfl (Nat.le_of_ble_eq_true rfl) dX4_init_50 (fun H locs hP hD hS => ?_)
  have hP : va_P D vwCl [(h0, .inr (3, [.ref q1, .ref q11, .ref q21, kz, .ref q31, .null, .null, kz, .null])), (q1, .inr (0, [kz, .ref q2, .ref q3, .ref q4, .ref q5, .ref q6, .ref q7, kz, .ref q8, .ref q9, .ref q10, kz])), (q2, ka cA 9), (q3, ka cA 9), (q4, ka cA 9), (q5, ka cA 9), (q6, ka cA 9), (q7, ka cA 9), (q8, ka cA 6), (q9, ka cA 6), (q10, ka cA 6), (q11, .inr (0, [kz, .ref q12, .ref q13, .ref q14, .ref q15, .ref q16, .ref q17, kz, .ref q18, .ref q19, .ref q20, kz])), (q12, ka cA 9), (q13, ka cA 9), (q14, ka cA 9), (q15, ka cA 9), (q16, ka cA 9), (q17, ka cA 9), (q18, ka cA 6), (q19, ka cA 6), (q20, ka cA 6), (q21, .inr (0, [kz, .ref q22, .ref q23, .ref q24, .ref q25, .ref q26, .ref q27, kz, .ref q28, .ref q29, .ref q30, kz])), (q22, ka cA 9), (q23, ka cA 9), (q24, ka cA 9), (q25, ka cA 9), (q26, ka cA 9), (q27, ka cA 9), (q28, ka cA 6), (q29, ka cA 6), (q30, ka cA 6), (q31, .inr (1, [.ref q32, kz])), (q32, ka cA 96)] H := hP
  have hD : va_D A [(h0, .inr (3, [.ref q1, .ref q11, .ref q21, kz, .ref q31, .null, .null, kz, .null])), (q1, .inr (0, [kz, .ref q2, .ref q3, .ref q4, .ref q5, .ref q6, .ref q7, kz, .ref q8, .ref q9, .ref q10, kz])), (q2, ka cA 9), (q3, ka cA 9), (q4, ka cA 9), (q5, ka cA 9), (q6, ka cA 9), (q7, ka cA 9), (q8, ka cA 6), (q9, ka cA 6), (q10, ka cA 6), (q11, .inr (0, [kz, .ref q12, .ref q13, .ref q14, .ref q15, .ref q16, .ref q17, kz, .ref q18, .ref q19, .ref q20, kz])), (q12, ka cA 9), (q13, ka cA 9), (q14, ka cA 9), (q15, ka cA 9), (q16, ka cA 9), (q17, ka cA 9), (q18, ka cA 6), (q19, ka cA 6), (q20, ka cA 6), (q21, .inr (0, [kz, .ref q22, .ref q23, .ref q24, .ref q25, .ref q26, .ref q27, kz, .ref q28, .ref q29, .ref q30, kz])), (q22, ka cA 9), (q23, ka cA 9), (q24, ka cA 9), (q25, ka cA 9), (q26, ka cA 9), (q27, ka cA 9), (q28, ka cA 6), (q29, ka cA 6), (q30, ka cA 6), (q31, .inr (1, [.ref q32, kz])), (q32, ka cA 96)] := hD
  refine lv_aload_n hx hb dX4_init_53 rfl (lv_at hl 0 rfl) ?_
  refine va_new (ci := 2) (fs := [.null, .null]) (C := RX3) (T := TX3) (N := 2) hx hb hts cf_X3.2.1 tyX3 tyX3_ok hown (hts _ cl_X4_33) (hts _ in_X3) (hts _ iz_X3) hK hP hD hS hA rfl (fun j hj => by rcases (show j = 0 ∨ j = 1 by omega) with rfl | rfl <;> rfl) (Nat.le_of_ble_eq_true rfl) (Nat.le_of_ble_eq_true rfl) dX4_init_54 (fun q33 H hP hD hS => ?_)
  have hP : va_P D vwCl [(h0, .inr (3, [.ref q1, .ref q11, .ref q21, kz, .ref q31, .null, .null, kz, .null])), (q1, .inr (0, [kz, .ref q2, .ref q3, .ref q4, .ref q5, .ref q6, .ref q7, kz, .ref q8, .ref q9, .ref q10, kz])), (q2, ka cA 9), (q3, ka cA 9), (q4, ka cA 9), (q5, ka cA 9), (q6, ka cA 9), (q7, ka cA 9), (q8, ka cA 6), (q9, ka cA 6), (q10, ka cA 6), (q11, .inr (0, [kz, .ref q12, .ref q13, .ref q14, .ref q15, .ref q16, .ref q17, kz, .ref q18, .ref q19, .ref q20, kz])), (q12, ka cA 9), (q13, ka cA 9), (q14, ka cA 9), (q15, ka cA 9), (q16, ka cA 9), (q17, ka cA 9), (q18, ka cA 6), (q19, ka cA 6), (q20, ka cA 6), (q21, .inr (0, [kz, .ref q22, .ref q23, .ref q24, .ref q25, .ref q26, .ref q27, kz, .ref q28, .ref q29, .ref q30, kz])), (q22, ka cA 9), (q23, ka cA 9), (q24, ka cA 9), (q25, ka cA 9), (q26, ka cA 9), (q27, ka cA 9), (q28, ka cA 6), (q29, ka cA 6), (q30, ka cA 6), (q31, .inr (1, [.ref q32, kz])), (q32, ka cA 96), (q33, .inr (2, [.null, .null]))] H := hP
  have hD : va_D A [(h0, .inr (3, [.ref q1, .ref q11, .ref q21, kz, .ref q31, .null, .null, kz, .null])), (q1, .inr (0, [kz, .ref q2, .ref q3, .ref q4, .ref q5, .ref q6, .ref q7, kz, .ref q8, .ref q9, .ref q10, kz])), (q2, ka cA 9), (q3, ka cA 9), (q4, ka cA 9), (q5, ka cA 9), (q6, ka cA 9), (q7, ka cA 9), (q8, ka cA 6), (q9, ka cA 6), (q10, ka cA 6), (q11, .inr (0, [kz, .ref q12, .ref q13, .ref q14, .ref q15, .ref q16, .ref q17, kz, .ref q18, .ref q19, .ref q20, kz])), (q12, ka cA 9), (q13, ka cA 9), (q14, ka cA 9), (q15, ka cA 9), (q16, ka cA 9), (q17, ka cA 9), (q18, ka cA 6), (q19, ka cA 6), (q20, ka cA 6), (q21, .inr (0, [kz, .ref q22, .ref q23, .ref q24, .ref q25, .ref q26, .ref q27, kz, .ref q28, .ref q29, .ref q30, kz])), (q22, ka cA 9), (q23, ka cA 9), (q24, ka cA 9), (q25, ka cA 9), (q26, ka cA 9), (q27, ka cA 9), (q28, ka cA 6), (q29, ka cA 6), (q30, ka cA 6), (q31, .inr (1, [.ref q32, kz])), (q32, ka cA 96), (q33, .inr (2, [.null, .null]))] := hD
  refine W.widen (k := 33) (n := 352) (by omega) (by omega) ?_
  refine lv_dup hx hb dX4_init_57 rfl ?_
  have hPc := hP.sub (ws' := [(q33, .inr (2, [.null, .null]))]) [33] rfl
  have hDc := hD.sub (ws' := [(q33, .inr (2, [.null, .null]))]) [33] (by decide) rfl
  have hFc := va_free (wc := [(q33, .inr (2, [.null, .null]))]) hD hS hA [33] rfl
  refine va_callv (va_runI (As := []) (rest := [.ref q33, .ref h0]) ⟨hx, hb, hml, hown, hts⟩ (c_X3_init l D cA q33 H.size) (cwI 0 hts gi_X3 rfl rfl rfl (hts _ iz_X3) (hts _ il_X4_35) (hts _ im_X3) rfl (by decide +kernel) ⟨Nat.le_of_ble_eq_true rfl, Nat.le_of_ble_eq_true rfl⟩) ⟨fun a U g mk q => by obtain ⟨q0, q1, qP, qK, qD⟩ := q; exact ⟨q0, q1, qP, va_K.moved (u := U) (U := U.calling g mk a) (Vm.Alike.refl U.vm) qK, qD⟩, fun U hU hW => ⟨rfl, by rw [hU], by rw [hU]; exact hPc, va_K.moved hW.alike hK, hDc.weaken (fun _ _ _ _ => trivial)⟩⟩ rfl rfl hl.1 rfl (lv_room (Nat.le_of_ble_eq_true rfl)) dX4_init_58 ⟨Nat.le_of_ble_eq_true rfl, Nat.le_of_ble_eq_true rfl⟩) hS (fun q _ h => hFc q h) hFc (fun u t H1 locs ht hvm h5 hB hz1 hk1 hS => ?_)
  obtain ⟨q34, q35, hP1, hD1⟩ := hB
  rw [ht] at hP1
  obtain ⟨hP, hD⟩ := va_join (wr := [(h0, .inr (3, [.ref q1, .ref q11, .ref q21, kz, .ref q31, .null, .null, kz, .null])), (q1, .inr (0, [kz, .ref q2, .ref q3, .ref q4, .ref q5, .ref q6, .ref q7, kz, .ref q8, .ref q9, .ref q10, kz])), (q2, ka cA 9), (q3, ka cA 9), (q4, ka cA 9), (q5, ka cA 9), (q6, ka cA 9), (q7, ka cA 9), (q8, ka cA 6), (q9, ka cA 6), (q10, ka cA 6), (q11, .inr (0, [kz, .ref q12, .ref q13, .ref q14, .ref q15, .ref q16, .ref q17, kz, .ref q18, .ref q19, .ref q20, kz])), (q12, ka cA 9), (q13, ka cA 9), (q14, ka cA 9), (q15, ka cA 9), (q16, ka cA 9), (q17, ka cA 9), (q18, ka cA 6), (q19, ka cA 6), (q20, ka cA 6), (q21, .inr (0, [kz, .ref q22, .ref q23, .ref q24, .ref q25, .ref q26, .ref q27, kz, .ref q28, .ref q29, .ref q30, kz])), (q22, ka cA 9), (q23, ka cA 9), (q24, ka cA 9), (q25, ka cA 9), (q26, ka cA 9), (q27, ka cA 9), (q28, ka cA 6), (q29, ka cA 6), (q30, ka cA 6), (q31, .inr (1, [.ref q32, kz])), (q32, ka cA 96)]) (w1 := [(q33, .inr (2, [.ref q34, .ref q35])), (q34, ka cA 9), (q35, ka cA 7)]) hP hD [33] [0, 1, 2, 3, 4, 5, 6, 7, 8, 9, 10, 11, 12, 13, 14, 15, 16, 17, 18, 19, 20, 21, 22, 23, 24, 25, 26, 27, 28, 29, 30, 31, 32] rfl rfl (by decide) (by decide) hk1 hFc hP1 hD1
  clear hPc hDc hFc hP1 hD1 ht hvm hk1 hz1 h5
  generalize H1 = H at hP hS ⊢
  have hP : va_P D vwCl [(h0, .inr (3, [.ref q1, .ref q11, .ref q21, kz, .ref q31, .null, .null, kz, .null])), (q1, .inr (0, [kz, .ref q2, .ref q3, .ref q4, .ref q5, .ref q6, .ref q7, kz, .ref q8, .ref q9, .ref q10, kz])), (q2, ka cA 9), (q3, ka cA 9), (q4, ka cA 9), (q5, ka cA 9), (q6, ka cA 9), (q7, ka cA 9), (q8, ka cA 6), (q9, ka cA 6), (q10, ka cA 6), (q11, .inr (0, [kz, .ref q12, .ref q13, .ref q14, .ref q15, .ref q16, .ref q17, kz, .ref q18, .ref q19, .ref q20, kz])), (q12, ka cA 9), (q13, ka cA 9), (q14, ka cA 9), (q15, ka cA 9), (q16, ka cA 9), (q17, ka cA 9), (q18, ka cA 6), (q19, ka cA 6), (q20, ka cA 6), (q21, .inr (0, [kz, .ref q22, .ref q23, .ref q24, .ref q25, .ref q26, .ref q27, kz, .ref q28, .ref q29, .ref q30, kz])), (q22, ka cA 9), (q23, ka cA 9), (q24, ka cA 9), (q25, ka cA 9), (q26, ka cA 9), (q27, ka cA 9), (q28, ka cA 6), (q29, ka cA 6), (q30, ka cA 6), (q31, .inr (1, [.ref q32, kz])), (q32, ka cA 96), (q33, .inr (2, [.ref q34, .ref q35])), (q34, ka cA 9), (q35, ka cA 7)] H := hP
  have hD : va_D A [(h0, .inr (3, [.ref q1, .ref q11, .ref q21, kz, .ref q31, .null, .null, kz, .null])), (q1, .inr (0, [kz, .ref q2, .ref q3, .ref q4, .ref q5, .ref q6, .ref q7, kz, .ref q8, .ref q9, .ref q10, kz])), (q2, ka cA 9), (q3, ka cA 9), (q4, ka cA 9), (q5, ka cA 9), (q6, ka cA 9), (q7, ka cA 9), (q8, ka cA 6), (q9, ka cA 6), (q10, ka cA 6), (q11, .inr (0, [kz, .ref q12, .ref q13, .ref q14, .ref q15, .ref q16, .ref q17, kz, .ref q18, .ref q19, .ref q20, kz])), (q12, ka cA 9), (q13, ka cA 9), (q14, ka cA 9), (q15, ka cA 9), (q16, ka cA 9), (q17, ka cA 9), (q18, ka cA 6), (q19, ka cA 6), (q20, ka cA 6), (q21, .inr (0, [kz, .ref q22, .ref q23, .ref q24, .ref q25, .ref q26, .ref q27, kz, .ref q28, .ref q29, .ref q30, kz])), (q22, ka cA 9), (q23, ka cA 9), (q24, ka cA 9), (q25, ka cA 9), (q26, ka cA 9), (q27, ka cA 9), (q28, ka cA 6), (q29, ka cA 6), (q30, ka cA 6), (q31, .inr (1, [.ref q32, kz])), (q32, ka cA 96), (q33, .inr (2, [.ref q34, .ref q35])), (q34, ka cA 9), (q35, ka cA 7)] := hD
  refine W.widen (k := 35) (n := 368) (by omega) (by omega) ?_
  refine va_putF (D := D) (ci := 3) (v := .ref q33) (ty := (.object "DoorKeepsQuarrel$Ways")) (C := RX4) (T := TX4) (N := 9) hx hb hts cf_X4.2.1 tyX4 tyX4_ok nmX4 hown hK hP hD hS 0 rfl rfl 5 (by decide) (hts _ fk_X4_36) (fun _ h9 => h9) rfl hin rfl (by decide +kernel) rfl rfl (Nat.le_of_ble_eq_true rfl) dX4_init_61 (fun H locs hP hD hS => ?_)
  have hP : va_P D vwCl [(h0, .inr (3, [.ref q1, .ref q11, .ref q21, kz, .ref q31, .ref q33, .null, kz, .null])), (q1, .inr (0, [kz, .ref q2, .ref q3, .ref q4, .ref q5, .ref q6, .ref q7, kz, .ref q8, .ref q9, .ref q10, kz])), (q2, ka cA 9), (q3, ka cA 9), (q4, ka cA 9), (q5, ka cA 9), (q6, ka cA 9), (q7, ka cA 9), (q8, ka cA 6), (q9, ka cA 6), (q10, ka cA 6), (q11, .inr (0, [kz, .ref q12, .ref q13, .ref q14, .ref q15, .ref q16, .ref q17, kz, .ref q18, .ref q19, .ref q20, kz])), (q12, ka cA 9), (q13, ka cA 9), (q14, ka cA 9), (q15, ka cA 9), (q16, ka cA 9), (q17, ka cA 9), (q18, ka cA 6), (q19, ka cA 6), (q20, ka cA 6), (q21, .inr (0, [kz, .ref q22, .ref q23, .ref q24, .ref q25, .ref q26, .ref q27, kz, .ref q28, .ref q29, .ref q30, kz])), (q22, ka cA 9), (q23, ka cA 9), (q24, ka cA 9), (q25, ka cA 9), (q26, ka cA 9), (q27, ka cA 9), (q28, ka cA 6), (q29, ka cA 6), (q30, ka cA 6), (q31, .inr (1, [.ref q32, kz])), (q32, ka cA 96), (q33, .inr (2, [.ref q34, .ref q35])), (q34, ka cA 9), (q35, ka cA 7)] H := hP
  have hD : va_D A [(h0, .inr (3, [.ref q1, .ref q11, .ref q21, kz, .ref q31, .ref q33, .null, kz, .null])), (q1, .inr (0, [kz, .ref q2, .ref q3, .ref q4, .ref q5, .ref q6, .ref q7, kz, .ref q8, .ref q9, .ref q10, kz])), (q2, ka cA 9), (q3, ka cA 9), (q4, ka cA 9), (q5, ka cA 9), (q6, ka cA 9), (q7, ka cA 9), (q8, ka cA 6), (q9, ka cA 6), (q10, ka cA 6), (q11, .inr (0, [kz, .ref q12, .ref q13, .ref q14, .ref q15, .ref q16, .ref q17, kz, .ref q18, .ref q19, .ref q20, kz])), (q12, ka cA 9), (q13, ka cA 9), (q14, ka cA 9), (q15, ka cA 9), (q16, ka cA 9), (q17, ka cA 9), (q18, ka cA 6), (q19, ka cA 6), (q20, ka cA 6), (q21, .inr (0, [kz, .ref q22, .ref q23, .ref q24, .ref q25, .ref q26, .ref q27, kz, .ref q28, .ref q29, .ref q30, kz])), (q22, ka cA 9), (q23, ka cA 9), (q24, ka cA 9), (q25, ka cA 9), (q26, ka cA 9), (q27, ka cA 9), (q28, ka cA 6), (q29, ka cA 6), (q30, ka cA 6), (q31, .inr (1, [.ref q32, kz])), (q32, ka cA 96), (q33, .inr (2, [.ref q34, .ref q35])), (q34, ka cA 9), (q35, ka cA 7)] := hD
  refine lv_aload_n hx hb dX4_init_64 rfl (lv_at hl 0 rfl) ?_
  refine lv_bipush (v := 16) hx hb dX4_init_65 (by decide) ?_
  refine va_newa (n := 16) (N' := 16) (a0 := (16, .inl (fun _ => Int32.ofInt 0))) hx hb (hts _ ac_i) rfl hK hP hD hS hA (fun _ => rfl) (by decide) (by decide) (by decide) (Nat.le_of_ble_eq_true rfl) (Nat.le_of_ble_eq_true rfl) dX4_init_67 (fun q36 cB H hKb hP hD hS => ?_)
  rw [kq_cAe hKb] at hP hD
  have hP : va_P D vwCl [(h0, .inr (3, [.ref q1, .ref q11, .ref q21, kz, .ref q31, .ref q33, .null, kz, .null])), (q1, .inr (0, [kz, .ref q2, .ref q3, .ref q4, .ref q5, .ref q6, .ref q7, kz, .ref q8, .ref q9, .ref q10, kz])), (q2, ka cA 9), (q3, ka cA 9), (q4, ka cA 9), (q5, ka cA 9), (q6, ka cA 9), (q7, ka cA 9), (q8, ka cA 6), (q9, ka cA 6), (q10, ka cA 6), (q11, .inr (0, [kz, .ref q12, .ref q13, .ref q14, .ref q15, .ref q16, .ref q17, kz, .ref q18, .ref q19, .ref q20, kz])), (q12, ka cA 9), (q13, ka cA 9), (q14, ka cA 9), (q15, ka cA 9), (q16, ka cA 9), (q17, ka cA 9), (q18, ka cA 6), (q19, ka cA 6), (q20, ka cA 6), (q21, .inr (0, [kz, .ref q22, .ref q23, .ref q24, .ref q25, .ref q26, .ref q27, kz, .ref q28, .ref q29, .ref q30, kz])), (q22, ka cA 9), (q23, ka cA 9), (q24, ka cA 9), (q25, ka cA 9), (q26, ka cA 9), (q27, ka cA 9), (q28, ka cA 6), (q29, ka cA 6), (q30, ka cA 6), (q31, .inr (1, [.ref q32, kz])), (q32, ka cA 96), (q33, .inr (2, [.ref q34, .ref q35])), (q34, ka cA 9), (q35, ka cA 7), (q36, ka cA 16)] H := hP
  have hD : va_D A [(h0, .inr (3, [.ref q1, .ref q11, .ref q21, kz, .ref q31, .ref q33, .null, kz, .null])), (q1, .inr (0, [kz, .ref q2, .ref q3, .ref q4, .ref q5, .ref q6, .ref q7, kz, .ref q8, .ref q9, .ref q10, kz])), (q2, ka cA 9), (q3, ka cA 9), (q4, ka cA 9), (q5, ka cA 9), (q6, ka cA 9), (q7, ka cA 9), (q8, ka cA 6), (q9, ka cA 6), (q10, ka cA 6), (q11, .inr (0, [kz, .ref q12, .ref q13, .ref q14, .ref q15, .ref q16, .ref q17, kz, .ref q18, .ref q19, .ref q20, kz])), (q12, ka cA 9), (q13, ka cA 9), (q14, ka cA 9), (q15, ka cA 9), (q16, ka cA 9), (q17, ka cA 9), (q18, ka cA 6), (q19, ka cA 6), (q20, ka cA 6), (q21, .inr (0, [kz, .ref q22, .ref q23, .ref q24, .ref q25, .ref q26, .ref q27, kz, .ref q28, .ref q29, .ref q30, kz])), (q22, ka cA 9), (q23, ka cA 9), (q24, ka cA 9), (q25, ka cA 9), (q26, ka cA 9), (q27, ka cA 9), (q28, ka cA 6), (q29, ka cA 6), (q30, ka cA 6), (q31, .inr (1, [.ref q32, kz])), (q32, ka cA 96), (q33, .inr (2, [.ref q34, .ref q35])), (q34, ka cA 9), (q35, ka cA 7), (q36, ka cA 16)] := hD
  refine W.widen (k := 36) (n := 384) (by omega) (by omega) ?_
  refine va_putF (D := D) (ci := 3) (v := .ref q36) (ty := (.array .int)) (C := RX4) (T := TX4) (N := 9) hx hb hts cf_X4.2.1 tyX4 tyX4_ok nmX4 hown hK hP hD hS 0 rfl rfl 6 (by decide) (hts _ fk_X4_40) (fun _ h9 => h9) rfl hin rfl (by decide +kernel) rfl rfl (Nat.le_of_ble_eq_true rfl) dX4_init_69 (fun H locs hP hD hS => ?_)
  have hP : va_P D vwCl [(h0, .inr (3, [.ref q1, .ref q11, .ref q21, kz, .ref q31, .ref q33, .ref q36, kz, .null])), (q1, .inr (0, [kz, .ref q2, .ref q3, .ref q4, .ref q5, .ref q6, .ref q7, kz, .ref q8, .ref q9, .ref q10, kz])), (q2, ka cA 9), (q3, ka cA 9), (q4, ka cA 9), (q5, ka cA 9), (q6, ka cA 9), (q7, ka cA 9), (q8, ka cA 6), (q9, ka cA 6), (q10, ka cA 6), (q11, .inr (0, [kz, .ref q12, .ref q13, .ref q14, .ref q15, .ref q16, .ref q17, kz, .ref q18, .ref q19, .ref q20, kz])), (q12, ka cA 9), (q13, ka cA 9), (q14, ka cA 9), (q15, ka cA 9), (q16, ka cA 9), (q17, ka cA 9), (q18, ka cA 6), (q19, ka cA 6), (q20, ka cA 6), (q21, .inr (0, [kz, .ref q22, .ref q23, .ref q24, .ref q25, .ref q26, .ref q27, kz, .ref q28, .ref q29, .ref q30, kz])), (q22, ka cA 9), (q23, ka cA 9), (q24, ka cA 9), (q25, ka cA 9), (q26, ka cA 9), (q27, ka cA 9), (q28, ka cA 6), (q29, ka cA 6), (q30, ka cA 6), (q31, .inr (1, [.ref q32, kz])), (q32, ka cA 96), (q33, .inr (2, [.ref q34, .ref q35])), (q34, ka cA 9), (q35, ka cA 7), (q36, ka cA 16)] H := hP
  have hD : va_D A [(h0, .inr (3, [.ref q1, .ref q11, .ref q21, kz, .ref q31, .ref q33, .ref q36, kz, .null])), (q1, .inr (0, [kz, .ref q2, .ref q3, .ref q4, .ref q5, .ref q6, .ref q7, kz, .ref q8, .ref q9, .ref q10, kz])), (q2, ka cA 9), (q3, ka cA 9), (q4, ka cA 9), (q5, ka cA 9), (q6, ka cA 9), (q7, ka cA 9), (q8, ka cA 6), (q9, ka cA 6), (q10, ka cA 6), (q11, .inr (0, [kz, .ref q12, .ref q13, .ref q14, .ref q15, .ref q16, .ref q17, kz, .ref q18, .ref q19, .ref q20, kz])), (q12, ka cA 9), (q13, ka cA 9), (q14, ka cA 9), (q15, ka cA 9), (q16, ka cA 9), (q17, ka cA 9), (q18, ka cA 6), (q19, ka cA 6), (q20, ka cA 6), (q21, .inr (0, [kz, .ref q22, .ref q23, .ref q24, .ref q25, .ref q26, .ref q27, kz, .ref q28, .ref q29, .ref q30, kz])), (q22, ka cA 9), (q23, ka cA 9), (q24, ka cA 9), (q25, ka cA 9), (q26, ka cA 9), (q27, ka cA 9), (q28, ka cA 6), (q29, ka cA 6), (q30, ka cA 6), (q31, .inr (1, [.ref q32, kz])), (q32, ka cA 96), (q33, .inr (2, [.ref q34, .ref q35])), (q34, ka cA 9), (q35, ka cA 7), (q36, ka cA 16)] := hD
  refine lv_aload_n hx hb dX4_init_72 rfl (lv_at hl 0 rfl) ?_
  refine lv_iconst (v := Int32.ofInt 0) hx hb dX4_init_73 rfl ?_
  refine va_put (D := D) (ci := 3) (v := kz) (ty := .int) (C := RX4) (T := TX4) (N := 9) hx hb hts cf_X4.2.1 tyX4 tyX4_ok nmX4 hown hK hP hD hS 0 rfl rfl 7 (by decide) (hts _ fk_X4_44) (fun _ h9 => h9) rfl (by decide +kernel) rfl rfl (Nat.le_of_ble_eq_true rfl) dX4_init_74 (fun H locs hP hD hS => ?_)
  have hP : va_P D vwCl [(h0, .inr (3, [.ref q1, .ref q11, .ref q21, kz, .ref q31, .ref q33, .ref q36, kz, .null])), (q1, .inr (0, [kz, .ref q2, .ref q3, .ref q4, .ref q5, .ref q6, .ref q7, kz, .ref q8, .ref q9, .ref q10, kz])), (q2, ka cA 9), (q3, ka cA 9), (q4, ka cA 9), (q5, ka cA 9), (q6, ka cA 9), (q7, ka cA 9), (q8, ka cA 6), (q9, ka cA 6), (q10, ka cA 6), (q11, .inr (0, [kz, .ref q12, .ref q13, .ref q14, .ref q15, .ref q16, .ref q17, kz, .ref q18, .ref q19, .ref q20, kz])), (q12, ka cA 9), (q13, ka cA 9), (q14, ka cA 9), (q15, ka cA 9), (q16, ka cA 9), (q17, ka cA 9), (q18, ka cA 6), (q19, ka cA 6), (q20, ka cA 6), (q21, .inr (0, [kz, .ref q22, .ref q23, .ref q24, .ref q25, .ref q26, .ref q27, kz, .ref q28, .ref q29, .ref q30, kz])), (q22, ka cA 9), (q23, ka cA 9), (q24, ka cA 9), (q25, ka cA 9), (q26, ka cA 9), (q27, ka cA 9), (q28, ka cA 6), (q29, ka cA 6), (q30, ka cA 6), (q31, .inr (1, [.ref q32, kz])), (q32, ka cA 96), (q33, .inr (2, [.ref q34, .ref q35])), (q34, ka cA 9), (q35, ka cA 7), (q36, ka cA 16)] H := hP
  have hD : va_D A [(h0, .inr (3, [.ref q1, .ref q11, .ref q21, kz, .ref q31, .ref q33, .ref q36, kz, .null])), (q1, .inr (0, [kz, .ref q2, .ref q3, .ref q4, .ref q5, .ref q6, .ref q7, kz, .ref q8, .ref q9, .ref q10, kz])), (q2, ka cA 9), (q3, ka cA 9), (q4, ka cA 9), (q5, ka cA 9), (q6, ka cA 9), (q7, ka cA 9), (q8, ka cA 6), (q9, ka cA 6), (q10, ka cA 6), (q11, .inr (0, [kz, .ref q12, .ref q13, .ref q14, .ref q15, .ref q16, .ref q17, kz, .ref q18, .ref q19, .ref q20, kz])), (q12, ka cA 9), (q13, ka cA 9), (q14, ka cA 9), (q15, ka cA 9), (q16, ka cA 9), (q17, ka cA 9), (q18, ka cA 6), (q19, ka cA 6), (q20, ka cA 6), (q21, .inr (0, [kz, .ref q22, .ref q23, .ref q24, .ref q25, .ref q26, .ref q27, kz, .ref q28, .ref q29, .ref q30, kz])), (q22, ka cA 9), (q23, ka cA 9), (q24, ka cA 9), (q25, ka cA 9), (q26, ka cA 9), (q27, ka cA 9), (q28, ka cA 6), (q29, ka cA 6), (q30, ka cA 6), (q31, .inr (1, [.ref q32, kz])), (q32, ka cA 96), (q33, .inr (2, [.ref q34, .ref q35])), (q34, ka cA 9), (q35, ka cA 7), (q36, ka cA 16)] := hD
  refine lv_aload_n hx hb dX4_init_77 rfl (lv_at hl 0 rfl) ?_
  refine lv_bipush (v := 7) hx hb dX4_init_78 (by decide) ?_
  refine va_newa (n := 7) (N' := 7) (a0 := (7, .inl (fun _ => Int32.ofInt 0))) hx hb (hts _ ac_i) rfl hK hP hD hS hA (fun _ => rfl) (by decide) (by decide) (by decide) (Nat.le_of_ble_eq_true rfl) (Nat.le_of_ble_eq_true rfl) dX4_init_80 (fun q37 cB H hKb hP hD hS => ?_)
  rw [kq_cAe hKb] at hP hD
  have hP : va_P D vwCl [(h0, .inr (3, [.ref q1, .ref q11, .ref q21, kz, .ref q31, .ref q33, .ref q36, kz, .null])), (q1, .inr (0, [kz, .ref q2, .ref q3, .ref q4, .ref q5, .ref q6, .ref q7, kz, .ref q8, .ref q9, .ref q10, kz])), (q2, ka cA 9), (q3, ka cA 9), (q4, ka cA 9), (q5, ka cA 9), (q6, ka cA 9), (q7, ka cA 9), (q8, ka cA 6), (q9, ka cA 6), (q10, ka cA 6), (q11, .inr (0, [kz, .ref q12, .ref q13, .ref q14, .ref q15, .ref q16, .ref q17, kz, .ref q18, .ref q19, .ref q20, kz])), (q12, ka cA 9), (q13, ka cA 9), (q14, ka cA 9), (q15, ka cA 9), (q16, ka cA 9), (q17, ka cA 9), (q18, ka cA 6), (q19, ka cA 6), (q20, ka cA 6), (q21, .inr (0, [kz, .ref q22, .ref q23, .ref q24, .ref q25, .ref q26, .ref q27, kz, .ref q28, .ref q29, .ref q30, kz])), (q22, ka cA 9), (q23, ka cA 9), (q24, ka cA 9), (q25, ka cA 9), (q26, ka cA 9), (q27, ka cA 9), (q28, ka cA 6), (q29, ka cA 6), (q30, ka cA 6), (q31, .inr (1, [.ref q32, kz])), (q32, ka cA 96), (q33, .inr (2, [.ref q34, .ref q35])), (q34, ka cA 9), (q35, ka cA 7), (q36, ka cA 16), (q37, ka cA 7)] H := hP
  have hD : va_D A [(h0, .inr (3, [.ref q1, .ref q11, .ref q21, kz, .ref q31, .ref q33, .ref q36, kz, .null])), (q1, .inr (0, [kz, .ref q2, .ref q3, .ref q4, .ref q5, .ref q6, .ref q7, kz, .ref q8, .ref q9, .ref q10, kz])), (q2, ka cA 9), (q3, ka cA 9), (q4, ka cA 9), (q5, ka cA 9), (q6, ka cA 9), (q7, ka cA 9), (q8, ka cA 6), (q9, ka cA 6), (q10, ka cA 6), (q11, .inr (0, [kz, .ref q12, .ref q13, .ref q14, .ref q15, .ref q16, .ref q17, kz, .ref q18, .ref q19, .ref q20, kz])), (q12, ka cA 9), (q13, ka cA 9), (q14, ka cA 9), (q15, ka cA 9), (q16, ka cA 9), (q17, ka cA 9), (q18, ka cA 6), (q19, ka cA 6), (q20, ka cA 6), (q21, .inr (0, [kz, .ref q22, .ref q23, .ref q24, .ref q25, .ref q26, .ref q27, kz, .ref q28, .ref q29, .ref q30, kz])), (q22, ka cA 9), (q23, ka cA 9), (q24, ka cA 9), (q25, ka cA 9), (q26, ka cA 9), (q27, ka cA 9), (q28, ka cA 6), (q29, ka cA 6), (q30, ka cA 6), (q31, .inr (1, [.ref q32, kz])), (q32, ka cA 96), (q33, .inr (2, [.ref q34, .ref q35])), (q34, ka cA 9), (q35, ka cA 7), (q36, ka cA 16), (q37, ka cA 7)] := hD
  refine W.widen (k := 37) (n := 391) (by omega) (by omega) ?_
  refine va_putF (D := D) (ci := 3) (v := .ref q37) (ty := (.array .int)) (C := RX4) (T := TX4) (N := 9) hx hb hts cf_X4.2.1 tyX4 tyX4_ok nmX4 hown hK hP hD hS 0 rfl rfl 8 (by decide) (hts _ fk_X4_48) (fun _ h9 => h9) rfl hin rfl (by decide +kernel) rfl rfl (Nat.le_of_ble_eq_true rfl) dX4_init_82 (fun H locs hP hD hS => ?_)
  have hP : va_P D vwCl [(h0, .inr (3, [.ref q1, .ref q11, .ref q21, kz, .ref q31, .ref q33, .ref q36, kz, .ref q37])), (q1, .inr (0, [kz, .ref q2, .ref q3, .ref q4, .ref q5, .ref q6, .ref q7, kz, .ref q8, .ref q9, .ref q10, kz])), (q2, ka cA 9), (q3, ka cA 9), (q4, ka cA 9), (q5, ka cA 9), (q6, ka cA 9), (q7, ka cA 9), (q8, ka cA 6), (q9, ka cA 6), (q10, ka cA 6), (q11, .inr (0, [kz, .ref q12, .ref q13, .ref q14, .ref q15, .ref q16, .ref q17, kz, .ref q18, .ref q19, .ref q20, kz])), (q12, ka cA 9), (q13, ka cA 9), (q14, ka cA 9), (q15, ka cA 9), (q16, ka cA 9), (q17, ka cA 9), (q18, ka cA 6), (q19, ka cA 6), (q20, ka cA 6), (q21, .inr (0, [kz, .ref q22, .ref q23, .ref q24, .ref q25, .ref q26, .ref q27, kz, .ref q28, .ref q29, .ref q30, kz])), (q22, ka cA 9), (q23, ka cA 9), (q24, ka cA 9), (q25, ka cA 9), (q26, ka cA 9), (q27, ka cA 9), (q28, ka cA 6), (q29, ka cA 6), (q30, ka cA 6), (q31, .inr (1, [.ref q32, kz])), (q32, ka cA 96), (q33, .inr (2, [.ref q34, .ref q35])), (q34, ka cA 9), (q35, ka cA 7), (q36, ka cA 16), (q37, ka cA 7)] H := hP
  have hD : va_D A [(h0, .inr (3, [.ref q1, .ref q11, .ref q21, kz, .ref q31, .ref q33, .ref q36, kz, .ref q37])), (q1, .inr (0, [kz, .ref q2, .ref q3, .ref q4, .ref q5, .ref q6, .ref q7, kz, .ref q8, .ref q9, .ref q10, kz])), (q2, ka cA 9), (q3, ka cA 9), (q4, ka cA 9), (q5, ka cA 9), (q6, ka cA 9), (q7, ka cA 9), (q8, ka cA 6), (q9, ka cA 6), (q10, ka cA 6), (q11, .inr (0, [kz, .ref q12, .ref q13, .ref q14, .ref q15, .ref q16, .ref q17, kz, .ref q18, .ref q19, .ref q20, kz])), (q12, ka cA 9), (q13, ka cA 9), (q14, ka cA 9), (q15, ka cA 9), (q16, ka cA 9), (q17, ka cA 9), (q18, ka cA 6), (q19, ka cA 6), (q20, ka cA 6), (q21, .inr (0, [kz, .ref q22, .ref q23, .ref q24, .ref q25, .ref q26, .ref q27, kz, .ref q28, .ref q29, .ref q30, kz])), (q22, ka cA 9), (q23, ka cA 9), (q24, ka cA 9), (q25, ka cA 9), (q26, ka cA 9), (q27, ka cA 9), (q28, ka cA 6), (q29, ka cA 6), (q30, ka cA 6), (q31, .inr (1, [.ref q32, kz])), (q32, ka cA 96), (q33, .inr (2, [.ref q34, .ref q35])), (q34, ka cA 9), (q35, ka cA 7), (q36, ka cA 16), (q37, ka cA 7)] := hD
  exact W.vret hx hb hr (fun t ht hW => ⟨⟨(), rfl, trivial, q1, q2, q3, q4, q5, q6, q7, q8, q9, q10, q11, q12, q13, q14, q15, q16, q17, q18, q19, q20, q21, q22, q23, q24, q25, q26, q27, q28, q29, q30, q31, q32, q33, q34, q35, q36, q37, by rw [ht]; exact hP, hD⟩, hS.F ht⟩) hS.2.2 dX4_init_85
end INIT
