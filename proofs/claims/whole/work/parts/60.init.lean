section INIT2
set_option maxHeartbeats 400000 in
set_option maxRecDepth 100000 in
theorem c_X0_init (l : Launch) (D : va_G) (cA : ClassId) (h0 sz : Nat) : Met l yX0_init (Cond.code yX0_init cX0_init 1 none :: kq_tb) ({ frames := 1, cells := 9, slots := 72, locals := 12 }) (va_Pc [.ref h0] (fun U => U.heap.size = sz ∧ va_P D vwCl [(h0, .inr (0, [kz, .null, .null, .null, .null, .null, .null, kz, .null, .null, .null, kz]))] U.heap ∧ va_K D vwCl [(cA, .int)] U ∧ va_D (fun _ => True) [(h0, .inr (0, [kz, .null, .null, .null, .null, .null, .null, kz, .null, .null, .null, kz]))])) (va_Qv (fun _ : Unit => True) (fun _ t => ∃ (q1 q2 q3 q4 q5 q6 q7 q8 q9 : Nat), va_P D vwCl [(h0, .inr (0, [kz, .ref q1, .ref q2, .ref q3, .ref q4, .ref q5, .ref q6, kz, .ref q7, .ref q8, .ref q9, kz])), (q1, ka cA 9), (q2, ka cA 9), (q3, ka cA 9), (q4, ka cA 9), (q5, ka cA 9), (q6, ka cA 9), (q7, ka cA 6), (q8, ka cA 6), (q9, ka cA 6)] t.heap ∧ va_D (va_A [(h0, .inr (0, [kz, .null, .null, .null, .null, .null, .null, kz, .null, .null, .null, kz]))] sz) [(h0, .inr (0, [kz, .ref q1, .ref q2, .ref q3, .ref q4, .ref q5, .ref q6, kz, .ref q7, .ref q8, .ref q9, kz])), (q1, ka cA 9), (q2, ka cA 9), (q3, ka cA 9), (q4, ka cA 9), (q5, ka cA 9), (q6, ka cA 9), (q7, ka cA 6), (q8, ka cA 6), (q9, ka cA 6)]) (va_A [(h0, .inr (0, [kz, .null, .null, .null, .null, .null, .null, kz, .null, .null, .null, kz]))] sz)) 9 72 (va_A [(h0, .inr (0, [kz, .null, .null, .null, .null, .null, .null, kz, .null, .null, .null, kz]))] sz) := by
  refine Met.ofW (cc := cX0_init) (maxL := 1) (ret := none) (by decide) rfl ?_
  intro p e s m args below meth c s₁ B hml hv
  obtain ⟨rfl, hsz, hP, hK, hD0⟩ := hv
  have hx := B.exec
  have hb := B.bytes
  have hr := B.returns
  have hRm : (headSpec (Cond.code yX0_init cX0_init 1 none :: kq_tb) ({ frames := 1, cells := 9, slots := 72, locals := 12 } : Room)).room = ({ frames := 1, cells := 9, slots := 72, locals := 12 } : Room) := rfl
  rw [hRm]
  have hts0 := atoms_spec (ws := Cond.code yX0_init cX0_init 1 none :: kq_tb) B.pre
  have hts : ∀ w ∈ kq_tb, w.before _ s = true := fun w hw => hts0 w (List.mem_cons_of_mem _ hw)
  have hown : s.vm.findClass RX0 = some m.cls := findClass_of_methodNamed B.named
  have hlocks := B.notSynchronized
  have hin : meth.name = "<init>" := (name_of_methodNamed B.named B.method).1
  subst hsz
  have hD := hD0.self (sz := s.heap.size)
  generalize hAe : va_A [(h0, .inr (0, [kz, .null, .null, .null, .null, .null, .null, kz, .null, .null, .null, kz]))] s.heap.size = A at hD ⊢
  have hA : ∀ q : Nat, s.heap.size ≤ q → A q := fun q h => by rw [← hAe]; exact Or.inr h
  have hS : va_S A s.heap s.heap [] := va_S.rf
  have hP : va_P D vwCl [(h0, .inr (0, [kz, .null, .null, .null, .null, .null, .null, kz, .null, .null, .null, kz]))] s.heap := hP
  have hl := lv_entry ([.ref h0]) (n := 1) (Nat.le_of_ble_eq_true rfl)
  rw [lg_entry_eq]
  generalize (lg_sl ([.ref h0]) ++ List.replicate (1 - (lg_sl ([.ref h0])).length) Slot.unset).toArray = ls at hl ⊢
  have hl : lv_has ls 1 [(0, .ref h0)] := hl
  refine lv_aload_n hx hb dX0_init_0 rfl (lv_at hl 0 rfl) ?_
  refine W.objInit hx hb hown (hts _ ol_X0) (hts _ oi_i) (hts _ oi_c) rfl (by rw [hml]; exact hl.1) rfl dX0_init_1 (Nat.le_of_ble_eq_true rfl) (Nat.le_of_ble_eq_true rfl) ?_
  refine W.eq (g2 := F0 m 4 ls []) rfl ?_
  refine lv_aload_n hx hb dX0_init_4 rfl (lv_at hl 0 rfl) ?_
  refine lv_iconst (v := Int32.ofInt 0) hx hb dX0_init_5 rfl ?_
  refine va_put (D := D) (ci := 0) (v := kz) (ty := .int) (C := RX0) (T := TX0) (N := 12) hx hb hts cf_X0.2.1 tyX0 tyX0_ok nmX0 hown hK hP hD hS 0 rfl rfl 0 (by decide) (hts _ fk_X0_9) (fun _ h9 => h9) rfl (by decide +kernel) rfl rfl (Nat.le_of_ble_eq_true rfl) dX0_init_6 (fun H locs hP hD hS => ?_)
  have hP : va_P D vwCl [(h0, .inr (0, [kz, .null, .null, .null, .null, .null, .null, kz, .null, .null, .null, kz]))] H := hP
  have hD : va_D A [(h0, .inr (0, [kz, .null, .null, .null, .null, .null, .null, kz, .null, .null, .null, kz]))] := hD
  refine lv_aload_n hx hb dX0_init_9 rfl (lv_at hl 0 rfl) ?_
  refine lv_bipush (v := 9) hx hb dX0_init_10 (by decide) ?_
  refine va_newa (atype := .int) (n := 9) (N' := 9) (a0 := (9, .inl (fun _ => Int32.ofInt 0))) hx hb (hts _ ac_i) rfl hK hP hD hS hA (fun _ => rfl) (by decide) (by decide) (by decide) (Nat.le_of_ble_eq_true rfl) (Nat.le_of_ble_eq_true rfl) dX0_init_12 (fun q1 cB H hKb hP hD hS => ?_)
  rw [kq_cAe hKb] at hP hD
  have hP : va_P D vwCl [(h0, .inr (0, [kz, .null, .null, .null, .null, .null, .null, kz, .null, .null, .null, kz])), (q1, ka cA 9)] H := hP
  have hD : va_D A [(h0, .inr (0, [kz, .null, .null, .null, .null, .null, .null, kz, .null, .null, .null, kz])), (q1, ka cA 9)] := hD
  refine W.widen (k := 1) (n := 9) (by omega) (by omega) ?_
  refine va_putF (D := D) (ci := 0) (v := .ref q1) (ty := (.array .int)) (C := RX0) (T := TX0) (N := 12) hx hb hts cf_X0.2.1 tyX0 tyX0_ok nmX0 hown hK hP hD hS 0 rfl rfl 1 (by decide) (hts _ fk_X0_15) (fun _ h9 => h9) rfl hin rfl (by decide +kernel) rfl rfl (Nat.le_of_ble_eq_true rfl) dX0_init_14 (fun H locs hP hD hS => ?_)
  have hP : va_P D vwCl [(h0, .inr (0, [kz, .ref q1, .null, .null, .null, .null, .null, kz, .null, .null, .null, kz])), (q1, ka cA 9)] H := hP
  have hD : va_D A [(h0, .inr (0, [kz, .ref q1, .null, .null, .null, .null, .null, kz, .null, .null, .null, kz])), (q1, ka cA 9)] := hD
  refine lv_aload_n hx hb dX0_init_17 rfl (lv_at hl 0 rfl) ?_
  refine lv_bipush (v := 9) hx hb dX0_init_18 (by decide) ?_
  refine va_newa (atype := .int) (n := 9) (N' := 9) (a0 := (9, .inl (fun _ => Int32.ofInt 0))) hx hb (hts _ ac_i) rfl hK hP hD hS hA (fun _ => rfl) (by decide) (by decide) (by decide) (Nat.le_of_ble_eq_true rfl) (Nat.le_of_ble_eq_true rfl) dX0_init_20 (fun q2 cB H hKb hP hD hS => ?_)
  rw [kq_cAe hKb] at hP hD
  have hP : va_P D vwCl [(h0, .inr (0, [kz, .ref q1, .null, .null, .null, .null, .null, kz, .null, .null, .null, kz])), (q1, ka cA 9), (q2, ka cA 9)] H := hP
  have hD : va_D A [(h0, .inr (0, [kz, .ref q1, .null, .null, .null, .null, .null, kz, .null, .null, .null, kz])), (q1, ka cA 9), (q2, ka cA 9)] := hD
  refine W.widen (k := 2) (n := 18) (by omega) (by omega) ?_
  refine va_putF (D := D) (ci := 0) (v := .ref q2) (ty := (.array .int)) (C := RX0) (T := TX0) (N := 12) hx hb hts cf_X0.2.1 tyX0 tyX0_ok nmX0 hown hK hP hD hS 0 rfl rfl 2 (by decide) (hts _ fk_X0_19) (fun _ h9 => h9) rfl hin rfl (by decide +kernel) rfl rfl (Nat.le_of_ble_eq_true rfl) dX0_init_22 (fun H locs hP hD hS => ?_)
  have hP : va_P D vwCl [(h0, .inr (0, [kz, .ref q1, .ref q2, .null, .null, .null, .null, kz, .null, .null, .null, kz])), (q1, ka cA 9), (q2, ka cA 9)] H := hP
  have hD : va_D A [(h0, .inr (0, [kz, .ref q1, .ref q2, .null, .null, .null, .null, kz, .null, .null, .null, kz])), (q1, ka cA 9), (q2, ka cA 9)] := hD
  refine lv_aload_n hx hb dX0_init_25 rfl (lv_at hl 0 rfl) ?_
  refine lv_bipush (v := 9) hx hb dX0_init_26 (by decide) ?_
  refine va_newa (atype := .int) (n := 9) (N' := 9) (a0 := (9, .inl (fun _ => Int32.ofInt 0))) hx hb (hts _ ac_i) rfl hK hP hD hS hA (fun _ => rfl) (by decide) (by decide) (by decide) (Nat.le_of_ble_eq_true rfl) (Nat.le_of_ble_eq_true rfl) dX0_init_28 (fun q3 cB H hKb hP hD hS => ?_)
  rw [kq_cAe hKb] at hP hD
  have hP : va_P D vwCl [(h0, .inr (0, [kz, .ref q1, .ref q2, .null, .null, .null, .null, kz, .null, .null, .null, kz])), (q1, ka cA 9), (q2, ka cA 9), (q3, ka cA 9)] H := hP
  have hD : va_D A [(h0, .inr (0, [kz, .ref q1, .ref q2, .null, .null, .null, .null, kz, .null, .null, .null, kz])), (q1, ka cA 9), (q2, ka cA 9), (q3, ka cA 9)] := hD
  refine W.widen (k := 3) (n := 27) (by omega) (by omega) ?_
  refine va_putF (D := D) (ci := 0) (v := .ref q3) (ty := (.array .int)) (C := RX0) (T := TX0) (N := 12) hx hb hts cf_X0.2.1 tyX0 tyX0_ok nmX0 hown hK hP hD hS 0 rfl rfl 3 (by decide) (hts _ fk_X0_22) (fun _ h9 => h9) rfl hin rfl (by decide +kernel) rfl rfl (Nat.le_of_ble_eq_true rfl) dX0_init_30 (fun H locs hP hD hS => ?_)
  have hP : va_P D vwCl [(h0, .inr (0, [kz, .ref q1, .ref q2, .ref q3, .null, .null, .null, kz, .null, .null, .null, kz])), (q1, ka cA 9), (q2, ka cA 9), (q3, ka cA 9)] H := hP
  have hD : va_D A [(h0, .inr (0, [kz, .ref q1, .ref q2, .ref q3, .null, .null, .null, kz, .null, .null, .null, kz])), (q1, ka cA 9), (q2, ka cA 9), (q3, ka cA 9)] := hD
  refine lv_aload_n hx hb dX0_init_33 rfl (lv_at hl 0 rfl) ?_
  refine lv_bipush (v := 9) hx hb dX0_init_34 (by decide) ?_
  refine va_newa (atype := .int) (n := 9) (N' := 9) (a0 := (9, .inl (fun _ => Int32.ofInt 0))) hx hb (hts _ ac_i) rfl hK hP hD hS hA (fun _ => rfl) (by decide) (by decide) (by decide) (Nat.le_of_ble_eq_true rfl) (Nat.le_of_ble_eq_true rfl) dX0_init_36 (fun q4 cB H hKb hP hD hS => ?_)
  rw [kq_cAe hKb] at hP hD
  have hP : va_P D vwCl [(h0, .inr (0, [kz, .ref q1, .ref q2, .ref q3, .null, .null, .null, kz, .null, .null, .null, kz])), (q1, ka cA 9), (q2, ka cA 9), (q3, ka cA 9), (q4, ka cA 9)] H := hP
  have hD : va_D A [(h0, .inr (0, [kz, .ref q1, .ref q2, .ref q3, .null, .null, .null, kz, .null, .null, .null, kz])), (q1, ka cA 9), (q2, ka cA 9), (q3, ka cA 9), (q4, ka cA 9)] := hD
  refine W.widen (k := 4) (n := 36) (by omega) (by omega) ?_
  refine va_putF (D := D) (ci := 0) (v := .ref q4) (ty := (.array .int)) (C := RX0) (T := TX0) (N := 12) hx hb hts cf_X0.2.1 tyX0 tyX0_ok nmX0 hown hK hP hD hS 0 rfl rfl 4 (by decide) (hts _ fk_X0_25) (fun _ h9 => h9) rfl hin rfl (by decide +kernel) rfl rfl (Nat.le_of_ble_eq_true rfl) dX0_init_38 (fun H locs hP hD hS => ?_)
  have hP : va_P D vwCl [(h0, .inr (0, [kz, .ref q1, .ref q2, .ref q3, .ref q4, .null, .null, kz, .null, .null, .null, kz])), (q1, ka cA 9), (q2, ka cA 9), (q3, ka cA 9), (q4, ka cA 9)] H := hP
  have hD : va_D A [(h0, .inr (0, [kz, .ref q1, .ref q2, .ref q3, .ref q4, .null, .null, kz, .null, .null, .null, kz])), (q1, ka cA 9), (q2, ka cA 9), (q3, ka cA 9), (q4, ka cA 9)] := hD
  refine lv_aload_n hx hb dX0_init_41 rfl (lv_at hl 0 rfl) ?_
  refine lv_bipush (v := 9) hx hb dX0_init_42 (by decide) ?_
  refine va_newa (atype := .int) (n := 9) (N' := 9) (a0 := (9, .inl (fun _ => Int32.ofInt 0))) hx hb (hts _ ac_i) rfl hK hP hD hS hA (fun _ => rfl) (by decide) (by decide) (by decide) (Nat.le_of_ble_eq_true rfl) (Nat.le_of_ble_eq_true rfl) dX0_init_44 (fun q5 cB H hKb hP hD hS => ?_)
  rw [kq_cAe hKb] at hP hD
  have hP : va_P D vwCl [(h0, .inr (0, [kz, .ref q1, .ref q2, .ref q3, .ref q4, .null, .null, kz, .null, .null, .null, kz])), (q1, ka cA 9), (q2, ka cA 9), (q3, ka cA 9), (q4, ka cA 9), (q5, ka cA 9)] H := hP
  have hD : va_D A [(h0, .inr (0, [kz, .ref q1, .ref q2, .ref q3, .ref q4, .null, .null, kz, .null, .null, .null, kz])), (q1, ka cA 9), (q2, ka cA 9), (q3, ka cA 9), (q4, ka cA 9), (q5, ka cA 9)] := hD
  refine W.widen (k := 5) (n := 45) (by omega) (by omega) ?_
  refine va_putF (D := D) (ci := 0) (v := .ref q5) (ty := (.array .int)) (C := RX0) (T := TX0) (N := 12) hx hb hts cf_X0.2.1 tyX0 tyX0_ok nmX0 hown hK hP hD hS 0 rfl rfl 5 (by decide) (hts _ fk_X0_28) (fun _ h9 => h9) rfl hin rfl (by decide +kernel) rfl rfl (Nat.le_of_ble_eq_true rfl) dX0_init_46 (fun H locs hP hD hS => ?_)
  have hP : va_P D vwCl [(h0, .inr (0, [kz, .ref q1, .ref q2, .ref q3, .ref q4, .ref q5, .null, kz, .null, .null, .null, kz])), (q1, ka cA 9), (q2, ka cA 9), (q3, ka cA 9), (q4, ka cA 9), (q5, ka cA 9)] H := hP
  have hD : va_D A [(h0, .inr (0, [kz, .ref q1, .ref q2, .ref q3, .ref q4, .ref q5, .null, kz, .null, .null, .null, kz])), (q1, ka cA 9), (q2, ka cA 9), (q3, ka cA 9), (q4, ka cA 9), (q5, ka cA 9)] := hD
  refine lv_aload_n hx hb dX0_init_49 rfl (lv_at hl 0 rfl) ?_
  refine lv_bipush (v := 9) hx hb dX0_init_50 (by decide) ?_
  refine va_newa (atype := .int) (n := 9) (N' := 9) (a0 := (9, .inl (fun _ => Int32.ofInt 0))) hx hb (hts _ ac_i) rfl hK hP hD hS hA (fun _ => rfl) (by decide) (by decide) (by decide) (Nat.le_of_ble_eq_true rfl) (Nat.le_of_ble_eq_true rfl) dX0_init_52 (fun q6 cB H hKb hP hD hS => ?_)
  rw [kq_cAe hKb] at hP hD
  have hP : va_P D vwCl [(h0, .inr (0, [kz, .ref q1, .ref q2, .ref q3, .ref q4, .ref q5, .null, kz, .null, .null, .null, kz])), (q1, ka cA 9), (q2, ka cA 9), (q3, ka cA 9), (q4, ka cA 9), (q5, ka cA 9), (q6, ka cA 9)] H := hP
  have hD : va_D A [(h0, .inr (0, [kz, .ref q1, .ref q2, .ref q3, .ref q4, .ref q5, .null, kz, .null, .null, .null, kz])), (q1, ka cA 9), (q2, ka cA 9), (q3, ka cA 9), (q4, ka cA 9), (q5, ka cA 9), (q6, ka cA 9)] := hD
  refine W.widen (k := 6) (n := 54) (by omega) (by omega) ?_
  refine va_putF (D := D) (ci := 0) (v := .ref q6) (ty := (.array .int)) (C := RX0) (T := TX0) (N := 12) hx hb hts cf_X0.2.1 tyX0 tyX0_ok nmX0 hown hK hP hD hS 0 rfl rfl 6 (by decide) (hts _ fk_X0_31) (fun _ h9 => h9) rfl hin rfl (by decide +kernel) rfl rfl (Nat.le_of_ble_eq_true rfl) dX0_init_54 (fun H locs hP hD hS => ?_)
  have hP : va_P D vwCl [(h0, .inr (0, [kz, .ref q1, .ref q2, .ref q3, .ref q4, .ref q5, .ref q6, kz, .null, .null, .null, kz])), (q1, ka cA 9), (q2, ka cA 9), (q3, ka cA 9), (q4, ka cA 9), (q5, ka cA 9), (q6, ka cA 9)] H := hP
  have hD : va_D A [(h0, .inr (0, [kz, .ref q1, .ref q2, .ref q3, .ref q4, .ref q5, .ref q6, kz, .null, .null, .null, kz])), (q1, ka cA 9), (q2, ka cA 9), (q3, ka cA 9), (q4, ka cA 9), (q5, ka cA 9), (q6, ka cA 9)] := hD
  refine lv_aload_n hx hb dX0_init_57 rfl (lv_at hl 0 rfl) ?_
  refine lv_iconst (v := Int32.ofInt 0) hx hb dX0_init_58 rfl ?_
  refine va_put (D := D) (ci := 0) (v := kz) (ty := .int) (C := RX0) (T := TX0) (N := 12) hx hb hts cf_X0.2.1 tyX0 tyX0_ok nmX0 hown hK hP hD hS 0 rfl rfl 7 (by decide) (hts _ fk_X0_34) (fun _ h9 => h9) rfl (by decide +kernel) rfl rfl (Nat.le_of_ble_eq_true rfl) dX0_init_59 (fun H locs hP hD hS => ?_)
  have hP : va_P D vwCl [(h0, .inr (0, [kz, .ref q1, .ref q2, .ref q3, .ref q4, .ref q5, .ref q6, kz, .null, .null, .null, kz])), (q1, ka cA 9), (q2, ka cA 9), (q3, ka cA 9), (q4, ka cA 9), (q5, ka cA 9), (q6, ka cA 9)] H := hP
  have hD : va_D A [(h0, .inr (0, [kz, .ref q1, .ref q2, .ref q3, .ref q4, .ref q5, .ref q6, kz, .null, .null, .null, kz])), (q1, ka cA 9), (q2, ka cA 9), (q3, ka cA 9), (q4, ka cA 9), (q5, ka cA 9), (q6, ka cA 9)] := hD
  refine lv_aload_n hx hb dX0_init_62 rfl (lv_at hl 0 rfl) ?_
  refine lv_bipush (v := 6) hx hb dX0_init_63 (by decide) ?_
  refine va_newa (atype := .int) (n := 6) (N' := 6) (a0 := (6, .inl (fun _ => Int32.ofInt 0))) hx hb (hts _ ac_i) rfl hK hP hD hS hA (fun _ => rfl) (by decide) (by decide) (by decide) (Nat.le_of_ble_eq_true rfl) (Nat.le_of_ble_eq_true rfl) dX0_init_65 (fun q7 cB H hKb hP hD hS => ?_)
  rw [kq_cAe hKb] at hP hD
  have hP : va_P D vwCl [(h0, .inr (0, [kz, .ref q1, .ref q2, .ref q3, .ref q4, .ref q5, .ref q6, kz, .null, .null, .null, kz])), (q1, ka cA 9), (q2, ka cA 9), (q3, ka cA 9), (q4, ka cA 9), (q5, ka cA 9), (q6, ka cA 9), (q7, ka cA 6)] H := hP
  have hD : va_D A [(h0, .inr (0, [kz, .ref q1, .ref q2, .ref q3, .ref q4, .ref q5, .ref q6, kz, .null, .null, .null, kz])), (q1, ka cA 9), (q2, ka cA 9), (q3, ka cA 9), (q4, ka cA 9), (q5, ka cA 9), (q6, ka cA 9), (q7, ka cA 6)] := hD
  refine W.widen (k := 7) (n := 60) (by omega) (by omega) ?_
  refine va_putF (D := D) (ci := 0) (v := .ref q7) (ty := (.array .int)) (C := RX0) (T := TX0) (N := 12) hx hb hts cf_X0.2.1 tyX0 tyX0_ok nmX0 hown hK hP hD hS 0 rfl rfl 8 (by decide) (hts _ fk_X0_37) (fun _ h9 => h9) rfl hin rfl (by decide +kernel) rfl rfl (Nat.le_of_ble_eq_true rfl) dX0_init_67 (fun H locs hP hD hS => ?_)
  have hP : va_P D vwCl [(h0, .inr (0, [kz, .ref q1, .ref q2, .ref q3, .ref q4, .ref q5, .ref q6, kz, .ref q7, .null, .null, kz])), (q1, ka cA 9), (q2, ka cA 9), (q3, ka cA 9), (q4, ka cA 9), (q5, ka cA 9), (q6, ka cA 9), (q7, ka cA 6)] H := hP
  have hD : va_D A [(h0, .inr (0, [kz, .ref q1, .ref q2, .ref q3, .ref q4, .ref q5, .ref q6, kz, .ref q7, .null, .null, kz])), (q1, ka cA 9), (q2, ka cA 9), (q3, ka cA 9), (q4, ka cA 9), (q5, ka cA 9), (q6, ka cA 9), (q7, ka cA 6)] := hD
  refine lv_aload_n hx hb dX0_init_70 rfl (lv_at hl 0 rfl) ?_
  refine lv_bipush (v := 6) hx hb dX0_init_71 (by decide) ?_
  refine va_newa (atype := .int) (n := 6) (N' := 6) (a0 := (6, .inl (fun _ => Int32.ofInt 0))) hx hb (hts _ ac_i) rfl hK hP hD hS hA (fun _ => rfl) (by decide) (by decide) (by decide) (Nat.le_of_ble_eq_true rfl) (Nat.le_of_ble_eq_true rfl) dX0_init_73 (fun q8 cB H hKb hP hD hS => ?_)
  rw [kq_cAe hKb] at hP hD
  have hP : va_P D vwCl [(h0, .inr (0, [kz, .ref q1, .ref q2, .ref q3, .ref q4, .ref q5, .ref q6, kz, .ref q7, .null, .null, kz])), (q1, ka cA 9), (q2, ka cA 9), (q3, ka cA 9), (q4, ka cA 9), (q5, ka cA 9), (q6, ka cA 9), (q7, ka cA 6), (q8, ka cA 6)] H := hP
  have hD : va_D A [(h0, .inr (0, [kz, .ref q1, .ref q2, .ref q3, .ref q4, .ref q5, .ref q6, kz, .ref q7, .null, .null, kz])), (q1, ka cA 9), (q2, ka cA 9), (q3, ka cA 9), (q4, ka cA 9), (q5, ka cA 9), (q6, ka cA 9), (q7, ka cA 6), (q8, ka cA 6)] := hD
  refine W.widen (k := 8) (n := 66) (by omega) (by omega) ?_
  refine va_putF (D := D) (ci := 0) (v := .ref q8) (ty := (.array .int)) (C := RX0) (T := TX0) (N := 12) hx hb hts cf_X0.2.1 tyX0 tyX0_ok nmX0 hown hK hP hD hS 0 rfl rfl 9 (by decide) (hts _ fk_X0_40) (fun _ h9 => h9) rfl hin rfl (by decide +kernel) rfl rfl (Nat.le_of_ble_eq_true rfl) dX0_init_75 (fun H locs hP hD hS => ?_)
  have hP : va_P D vwCl [(h0, .inr (0, [kz, .ref q1, .ref q2, .ref q3, .ref q4, .ref q5, .ref q6, kz, .ref q7, .ref q8, .null, kz])), (q1, ka cA 9), (q2, ka cA 9), (q3, ka cA 9), (q4, ka cA 9), (q5, ka cA 9), (q6, ka cA 9), (q7, ka cA 6), (q8, ka cA 6)] H := hP
  have hD : va_D A [(h0, .inr (0, [kz, .ref q1, .ref q2, .ref q3, .ref q4, .ref q5, .ref q6, kz, .ref q7, .ref q8, .null, kz])), (q1, ka cA 9), (q2, ka cA 9), (q3, ka cA 9), (q4, ka cA 9), (q5, ka cA 9), (q6, ka cA 9), (q7, ka cA 6), (q8, ka cA 6)] := hD
  refine lv_aload_n hx hb dX0_init_78 rfl (lv_at hl 0 rfl) ?_
  refine lv_bipush (v := 6) hx hb dX0_init_79 (by decide) ?_
  refine va_newa (atype := .int) (n := 6) (N' := 6) (a0 := (6, .inl (fun _ => Int32.ofInt 0))) hx hb (hts _ ac_i) rfl hK hP hD hS hA (fun _ => rfl) (by decide) (by decide) (by decide) (Nat.le_of_ble_eq_true rfl) (Nat.le_of_ble_eq_true rfl) dX0_init_81 (fun q9 cB H hKb hP hD hS => ?_)
  rw [kq_cAe hKb] at hP hD
  have hP : va_P D vwCl [(h0, .inr (0, [kz, .ref q1, .ref q2, .ref q3, .ref q4, .ref q5, .ref q6, kz, .ref q7, .ref q8, .null, kz])), (q1, ka cA 9), (q2, ka cA 9), (q3, ka cA 9), (q4, ka cA 9), (q5, ka cA 9), (q6, ka cA 9), (q7, ka cA 6), (q8, ka cA 6), (q9, ka cA 6)] H := hP
  have hD : va_D A [(h0, .inr (0, [kz, .ref q1, .ref q2, .ref q3, .ref q4, .ref q5, .ref q6, kz, .ref q7, .ref q8, .null, kz])), (q1, ka cA 9), (q2, ka cA 9), (q3, ka cA 9), (q4, ka cA 9), (q5, ka cA 9), (q6, ka cA 9), (q7, ka cA 6), (q8, ka cA 6), (q9, ka cA 6)] := hD
  refine W.widen (k := 9) (n := 72) (by omega) (by omega) ?_
  refine va_putF (D := D) (ci := 0) (v := .ref q9) (ty := (.array .int)) (C := RX0) (T := TX0) (N := 12) hx hb hts cf_X0.2.1 tyX0 tyX0_ok nmX0 hown hK hP hD hS 0 rfl rfl 10 (by decide) (hts _ fk_X0_43) (fun _ h9 => h9) rfl hin rfl (by decide +kernel) rfl rfl (Nat.le_of_ble_eq_true rfl) dX0_init_83 (fun H locs hP hD hS => ?_)
  have hP : va_P D vwCl [(h0, .inr (0, [kz, .ref q1, .ref q2, .ref q3, .ref q4, .ref q5, .ref q6, kz, .ref q7, .ref q8, .ref q9, kz])), (q1, ka cA 9), (q2, ka cA 9), (q3, ka cA 9), (q4, ka cA 9), (q5, ka cA 9), (q6, ka cA 9), (q7, ka cA 6), (q8, ka cA 6), (q9, ka cA 6)] H := hP
  have hD : va_D A [(h0, .inr (0, [kz, .ref q1, .ref q2, .ref q3, .ref q4, .ref q5, .ref q6, kz, .ref q7, .ref q8, .ref q9, kz])), (q1, ka cA 9), (q2, ka cA 9), (q3, ka cA 9), (q4, ka cA 9), (q5, ka cA 9), (q6, ka cA 9), (q7, ka cA 6), (q8, ka cA 6), (q9, ka cA 6)] := hD
  refine lv_aload_n hx hb dX0_init_86 rfl (lv_at hl 0 rfl) ?_
  refine lv_iconst (v := Int32.ofInt 0) hx hb dX0_init_87 rfl ?_
  refine va_put (D := D) (ci := 0) (v := kz) (ty := .int) (C := RX0) (T := TX0) (N := 12) hx hb hts cf_X0.2.1 tyX0 tyX0_ok nmX0 hown hK hP hD hS 0 rfl rfl 11 (by decide) (hts _ fk_X0_46) (fun _ h9 => h9) rfl (by decide +kernel) rfl rfl (Nat.le_of_ble_eq_true rfl) dX0_init_88 (fun H locs hP hD hS => ?_)
  have hP : va_P D vwCl [(h0, .inr (0, [kz, .ref q1, .ref q2, .ref q3, .ref q4, .ref q5, .ref q6, kz, .ref q7, .ref q8, .ref q9, kz])), (q1, ka cA 9), (q2, ka cA 9), (q3, ka cA 9), (q4, ka cA 9), (q5, ka cA 9), (q6, ka cA 9), (q7, ka cA 6), (q8, ka cA 6), (q9, ka cA 6)] H := hP
  have hD : va_D A [(h0, .inr (0, [kz, .ref q1, .ref q2, .ref q3, .ref q4, .ref q5, .ref q6, kz, .ref q7, .ref q8, .ref q9, kz])), (q1, ka cA 9), (q2, ka cA 9), (q3, ka cA 9), (q4, ka cA 9), (q5, ka cA 9), (q6, ka cA 9), (q7, ka cA 6), (q8, ka cA 6), (q9, ka cA 6)] := hD
  exact W.vret hx hb hr (fun t ht hW => ⟨⟨(), rfl, trivial, q1, q2, q3, q4, q5, q6, q7, q8, q9, by rw [ht]; exact hP, hD⟩, hS.F ht⟩) hS.2.2 dX0_init_91
set_option maxHeartbeats 400000 in
set_option maxRecDepth 100000 in
theorem c_X2_init (l : Launch) (D : va_G) (cA : ClassId) (h0 sz : Nat) : Met l yX2_init (Cond.code yX2_init cX2_init 1 none :: kq_tb) ({ frames := 1, cells := 1, slots := 96, locals := 12 }) (va_Pc [.ref h0] (fun U => U.heap.size = sz ∧ va_P D vwCl [(h0, .inr (1, [.null, kz]))] U.heap ∧ va_K D vwCl [(cA, .int)] U ∧ va_D (fun _ => True) [(h0, .inr (1, [.null, kz]))])) (va_Qv (fun _ : Unit => True) (fun _ t => ∃ (q1 : Nat), va_P D vwCl [(h0, .inr (1, [.ref q1, kz])), (q1, ka cA 96)] t.heap ∧ va_D (va_A [(h0, .inr (1, [.null, kz]))] sz) [(h0, .inr (1, [.ref q1, kz])), (q1, ka cA 96)]) (va_A [(h0, .inr (1, [.null, kz]))] sz)) 1 96 (va_A [(h0, .inr (1, [.null, kz]))] sz) := by
  refine Met.ofW (cc := cX2_init) (maxL := 1) (ret := none) (by decide) rfl ?_
  intro p e s m args below meth c s₁ B hml hv
  obtain ⟨rfl, hsz, hP, hK, hD0⟩ := hv
  have hx := B.exec
  have hb := B.bytes
  have hr := B.returns
  have hRm : (headSpec (Cond.code yX2_init cX2_init 1 none :: kq_tb) ({ frames := 1, cells := 1, slots := 96, locals := 12 } : Room)).room = ({ frames := 1, cells := 1, slots := 96, locals := 12 } : Room) := rfl
  rw [hRm]
  have hts0 := atoms_spec (ws := Cond.code yX2_init cX2_init 1 none :: kq_tb) B.pre
  have hts : ∀ w ∈ kq_tb, w.before _ s = true := fun w hw => hts0 w (List.mem_cons_of_mem _ hw)
  have hown : s.vm.findClass RX2 = some m.cls := findClass_of_methodNamed B.named
  have hlocks := B.notSynchronized
  have hin : meth.name = "<init>" := (name_of_methodNamed B.named B.method).1
  subst hsz
  have hD := hD0.self (sz := s.heap.size)
  generalize hAe : va_A [(h0, .inr (1, [.null, kz]))] s.heap.size = A at hD ⊢
  have hA : ∀ q : Nat, s.heap.size ≤ q → A q := fun q h => by rw [← hAe]; exact Or.inr h
  have hS : va_S A s.heap s.heap [] := va_S.rf
  have hP : va_P D vwCl [(h0, .inr (1, [.null, kz]))] s.heap := hP
  have hl := lv_entry ([.ref h0]) (n := 1) (Nat.le_of_ble_eq_true rfl)
  rw [lg_entry_eq]
  generalize (lg_sl ([.ref h0]) ++ List.replicate (1 - (lg_sl ([.ref h0])).length) Slot.unset).toArray = ls at hl ⊢
  have hl : lv_has ls 1 [(0, .ref h0)] := hl
  refine lv_aload_n hx hb dX2_init_0 rfl (lv_at hl 0 rfl) ?_
  refine W.objInit hx hb hown (hts _ ol_X2) (hts _ oi_i) (hts _ oi_c) rfl (by rw [hml]; exact hl.1) rfl dX2_init_1 (Nat.le_of_ble_eq_true rfl) (Nat.le_of_ble_eq_true rfl) ?_
  refine W.eq (g2 := F0 m 4 ls []) rfl ?_
  refine lv_aload_n hx hb dX2_init_4 rfl (lv_at hl 0 rfl) ?_
  refine lv_bipush (v := 96) hx hb dX2_init_5 (by decide) ?_
  refine va_newa (atype := .int) (n := 96) (N' := 96) (a0 := (96, .inl (fun _ => Int32.ofInt 0))) hx hb (hts _ ac_i) rfl hK hP hD hS hA (fun _ => rfl) (by decide) (by decide) (by decide) (Nat.le_of_ble_eq_true rfl) (Nat.le_of_ble_eq_true rfl) dX2_init_7 (fun q1 cB H hKb hP hD hS => ?_)
  rw [kq_cAe hKb] at hP hD
  have hP : va_P D vwCl [(h0, .inr (1, [.null, kz])), (q1, ka cA 96)] H := hP
  have hD : va_D A [(h0, .inr (1, [.null, kz])), (q1, ka cA 96)] := hD
  refine W.widen (k := 1) (n := 96) (by omega) (by omega) ?_
  refine va_putF (D := D) (ci := 1) (v := .ref q1) (ty := (.array .int)) (C := RX2) (T := TX2) (N := 2) hx hb hts cf_X2.2.1 tyX2 tyX2_ok nmX2 hown hK hP hD hS 0 rfl rfl 0 (by decide) (hts _ fk_X2_9) (fun _ h9 => h9) rfl hin rfl (by decide +kernel) rfl rfl (Nat.le_of_ble_eq_true rfl) dX2_init_9 (fun H locs hP hD hS => ?_)
  have hP : va_P D vwCl [(h0, .inr (1, [.ref q1, kz])), (q1, ka cA 96)] H := hP
  have hD : va_D A [(h0, .inr (1, [.ref q1, kz])), (q1, ka cA 96)] := hD
  refine lv_aload_n hx hb dX2_init_12 rfl (lv_at hl 0 rfl) ?_
  refine lv_iconst (v := Int32.ofInt 0) hx hb dX2_init_13 rfl ?_
  refine va_put (D := D) (ci := 1) (v := kz) (ty := .int) (C := RX2) (T := TX2) (N := 2) hx hb hts cf_X2.2.1 tyX2 tyX2_ok nmX2 hown hK hP hD hS 0 rfl rfl 1 (by decide) (hts _ fk_X2_15) (fun _ h9 => h9) rfl (by decide +kernel) rfl rfl (Nat.le_of_ble_eq_true rfl) dX2_init_14 (fun H locs hP hD hS => ?_)
  have hP : va_P D vwCl [(h0, .inr (1, [.ref q1, kz])), (q1, ka cA 96)] H := hP
  have hD : va_D A [(h0, .inr (1, [.ref q1, kz])), (q1, ka cA 96)] := hD
  exact W.vret hx hb hr (fun t ht hW => ⟨⟨(), rfl, trivial, q1, by rw [ht]; exact hP, hD⟩, hS.F ht⟩) hS.2.2 dX2_init_17
set_option maxHeartbeats 400000 in
set_option maxRecDepth 100000 in
theorem c_X3_init (l : Launch) (D : va_G) (cA : ClassId) (h0 sz : Nat) : Met l yX3_init (Cond.code yX3_init cX3_init 1 none :: kq_tb) ({ frames := 1, cells := 2, slots := 16, locals := 12 }) (va_Pc [.ref h0] (fun U => U.heap.size = sz ∧ va_P D vwCl [(h0, .inr (2, [.null, .null]))] U.heap ∧ va_K D vwCl [(cA, .int)] U ∧ va_D (fun _ => True) [(h0, .inr (2, [.null, .null]))])) (va_Qv (fun _ : Unit => True) (fun _ t => ∃ (q1 q2 : Nat), va_P D vwCl [(h0, .inr (2, [.ref q1, .ref q2])), (q1, ka cA 9), (q2, ka cA 7)] t.heap ∧ va_D (va_A [(h0, .inr (2, [.null, .null]))] sz) [(h0, .inr (2, [.ref q1, .ref q2])), (q1, ka cA 9), (q2, ka cA 7)]) (va_A [(h0, .inr (2, [.null, .null]))] sz)) 2 16 (va_A [(h0, .inr (2, [.null, .null]))] sz) := by
  refine Met.ofW (cc := cX3_init) (maxL := 1) (ret := none) (by decide) rfl ?_
  intro p e s m args below meth c s₁ B hml hv
  obtain ⟨rfl, hsz, hP, hK, hD0⟩ := hv
  have hx := B.exec
  have hb := B.bytes
  have hr := B.returns
  have hRm : (headSpec (Cond.code yX3_init cX3_init 1 none :: kq_tb) ({ frames := 1, cells := 2, slots := 16, locals := 12 } : Room)).room = ({ frames := 1, cells := 2, slots := 16, locals := 12 } : Room) := rfl
  rw [hRm]
  have hts0 := atoms_spec (ws := Cond.code yX3_init cX3_init 1 none :: kq_tb) B.pre
  have hts : ∀ w ∈ kq_tb, w.before _ s = true := fun w hw => hts0 w (List.mem_cons_of_mem _ hw)
  have hown : s.vm.findClass RX3 = some m.cls := findClass_of_methodNamed B.named
  have hlocks := B.notSynchronized
  have hin : meth.name = "<init>" := (name_of_methodNamed B.named B.method).1
  subst hsz
  have hD := hD0.self (sz := s.heap.size)
  generalize hAe : va_A [(h0, .inr (2, [.null, .null]))] s.heap.size = A at hD ⊢
  have hA : ∀ q : Nat, s.heap.size ≤ q → A q := fun q h => by rw [← hAe]; exact Or.inr h
  have hS : va_S A s.heap s.heap [] := va_S.rf
  have hP : va_P D vwCl [(h0, .inr (2, [.null, .null]))] s.heap := hP
  have hl := lv_entry ([.ref h0]) (n := 1) (Nat.le_of_ble_eq_true rfl)
  rw [lg_entry_eq]
  generalize (lg_sl ([.ref h0]) ++ List.replicate (1 - (lg_sl ([.ref h0])).length) Slot.unset).toArray = ls at hl ⊢
  have hl : lv_has ls 1 [(0, .ref h0)] := hl
  refine lv_aload_n hx hb dX3_init_0 rfl (lv_at hl 0 rfl) ?_
  refine W.objInit hx hb hown (hts _ ol_X3) (hts _ oi_i) (hts _ oi_c) rfl (by rw [hml]; exact hl.1) rfl dX3_init_1 (Nat.le_of_ble_eq_true rfl) (Nat.le_of_ble_eq_true rfl) ?_
  refine W.eq (g2 := F0 m 4 ls []) rfl ?_
  refine lv_aload_n hx hb dX3_init_4 rfl (lv_at hl 0 rfl) ?_
  refine lv_bipush (v := 9) hx hb dX3_init_5 (by decide) ?_
  refine va_newa (atype := .int) (n := 9) (N' := 9) (a0 := (9, .inl (fun _ => Int32.ofInt 0))) hx hb (hts _ ac_i) rfl hK hP hD hS hA (fun _ => rfl) (by decide) (by decide) (by decide) (Nat.le_of_ble_eq_true rfl) (Nat.le_of_ble_eq_true rfl) dX3_init_7 (fun q1 cB H hKb hP hD hS => ?_)
  rw [kq_cAe hKb] at hP hD
  have hP : va_P D vwCl [(h0, .inr (2, [.null, .null])), (q1, ka cA 9)] H := hP
  have hD : va_D A [(h0, .inr (2, [.null, .null])), (q1, ka cA 9)] := hD
  refine W.widen (k := 1) (n := 9) (by omega) (by omega) ?_
  refine va_putF (D := D) (ci := 2) (v := .ref q1) (ty := (.array .int)) (C := RX3) (T := TX3) (N := 2) hx hb hts cf_X3.2.1 tyX3 tyX3_ok nmX3 hown hK hP hD hS 0 rfl rfl 0 (by decide) (hts _ fk_X3_9) (fun _ h9 => h9) rfl hin rfl (by decide +kernel) rfl rfl (Nat.le_of_ble_eq_true rfl) dX3_init_9 (fun H locs hP hD hS => ?_)
  have hP : va_P D vwCl [(h0, .inr (2, [.ref q1, .null])), (q1, ka cA 9)] H := hP
  have hD : va_D A [(h0, .inr (2, [.ref q1, .null])), (q1, ka cA 9)] := hD
  refine lv_aload_n hx hb dX3_init_12 rfl (lv_at hl 0 rfl) ?_
  refine lv_bipush (v := 7) hx hb dX3_init_13 (by decide) ?_
  refine va_newa (atype := .int) (n := 7) (N' := 7) (a0 := (7, .inl (fun _ => Int32.ofInt 0))) hx hb (hts _ ac_i) rfl hK hP hD hS hA (fun _ => rfl) (by decide) (by decide) (by decide) (Nat.le_of_ble_eq_true rfl) (Nat.le_of_ble_eq_true rfl) dX3_init_15 (fun q2 cB H hKb hP hD hS => ?_)
  rw [kq_cAe hKb] at hP hD
  have hP : va_P D vwCl [(h0, .inr (2, [.ref q1, .null])), (q1, ka cA 9), (q2, ka cA 7)] H := hP
  have hD : va_D A [(h0, .inr (2, [.ref q1, .null])), (q1, ka cA 9), (q2, ka cA 7)] := hD
  refine W.widen (k := 2) (n := 16) (by omega) (by omega) ?_
  refine va_putF (D := D) (ci := 2) (v := .ref q2) (ty := (.array .int)) (C := RX3) (T := TX3) (N := 2) hx hb hts cf_X3.2.1 tyX3 tyX3_ok nmX3 hown hK hP hD hS 0 rfl rfl 1 (by decide) (hts _ fk_X3_15) (fun _ h9 => h9) rfl hin rfl (by decide +kernel) rfl rfl (Nat.le_of_ble_eq_true rfl) dX3_init_17 (fun H locs hP hD hS => ?_)
  have hP : va_P D vwCl [(h0, .inr (2, [.ref q1, .ref q2])), (q1, ka cA 9), (q2, ka cA 7)] H := hP
  have hD : va_D A [(h0, .inr (2, [.ref q1, .ref q2])), (q1, ka cA 9), (q2, ka cA 7)] := hD
  exact W.vret hx hb hr (fun t ht hW => ⟨⟨(), rfl, trivial, q1, q2, by rw [ht]; exact hP, hD⟩, hS.F ht⟩) hS.2.2 dX3_init_20
set_option maxHeartbeats 400000 in
set_option maxRecDepth 100000 in
theorem c_X5_init (l : Launch) (D : va_G) (cA : ClassId) (h0 sz : Nat) : Met l yX5_init (Cond.code yX5_init cX5_init 1 none :: kq_tb) ({ frames := 1, cells := 9, slots := 430, locals := 12 }) (va_Pc [.ref h0] (fun U => U.heap.size = sz ∧ va_P D vwCl [(h0, .inr (4, [.null, .null, .null, .null, kz, .null, .null, .null, kz, kz, kz, .null, .null, kz]))] U.heap ∧ va_K D vwCl [(cA, .int)] U ∧ va_D (fun _ => True) [(h0, .inr (4, [.null, .null, .null, .null, kz, .null, .null, .null, kz, kz, kz, .null, .null, kz]))])) (va_Qv (fun _ : Unit => True) (fun _ t => ∃ (q1 q2 q3 q4 q5 q6 q7 q8 q9 : Nat), va_P D vwCl [(h0, .inr (4, [.ref q1, .ref q2, .ref q3, .ref q4, kz, .ref q5, .ref q6, .ref q7, kz, kz, kz, .ref q8, .ref q9, kz])), (q1, ka cA 75), (q2, ka cA 75), (q3, ka cA 75), (q4, ka cA 75), (q5, ka cA 96), (q6, ka cA 16), (q7, ka cA 7), (q8, ka cA 4), (q9, ka cA 7)] t.heap ∧ va_D (va_A [(h0, .inr (4, [.null, .null, .null, .null, kz, .null, .null, .null, kz, kz, kz, .null, .null, kz]))] sz) [(h0, .inr (4, [.ref q1, .ref q2, .ref q3, .ref q4, kz, .ref q5, .ref q6, .ref q7, kz, kz, kz, .ref q8, .ref q9, kz])), (q1, ka cA 75), (q2, ka cA 75), (q3, ka cA 75), (q4, ka cA 75), (q5, ka cA 96), (q6, ka cA 16), (q7, ka cA 7), (q8, ka cA 4), (q9, ka cA 7)]) (va_A [(h0, .inr (4, [.null, .null, .null, .null, kz, .null, .null, .null, kz, kz, kz, .null, .null, kz]))] sz)) 9 430 (va_A [(h0, .inr (4, [.null, .null, .null, .null, kz, .null, .null, .null, kz, kz, kz, .null, .null, kz]))] sz) := by
  refine Met.ofW (cc := cX5_init) (maxL := 1) (ret := none) (by decide) rfl ?_
  intro p e s m args below meth c s₁ B hml hv
  obtain ⟨rfl, hsz, hP, hK, hD0⟩ := hv
  have hx := B.exec
  have hb := B.bytes
  have hr := B.returns
  have hRm : (headSpec (Cond.code yX5_init cX5_init 1 none :: kq_tb) ({ frames := 1, cells := 9, slots := 430, locals := 12 } : Room)).room = ({ frames := 1, cells := 9, slots := 430, locals := 12 } : Room) := rfl
  rw [hRm]
  have hts0 := atoms_spec (ws := Cond.code yX5_init cX5_init 1 none :: kq_tb) B.pre
  have hts : ∀ w ∈ kq_tb, w.before _ s = true := fun w hw => hts0 w (List.mem_cons_of_mem _ hw)
  have hown : s.vm.findClass RX5 = some m.cls := findClass_of_methodNamed B.named
  have hlocks := B.notSynchronized
  have hin : meth.name = "<init>" := (name_of_methodNamed B.named B.method).1
  subst hsz
  have hD := hD0.self (sz := s.heap.size)
  generalize hAe : va_A [(h0, .inr (4, [.null, .null, .null, .null, kz, .null, .null, .null, kz, kz, kz, .null, .null, kz]))] s.heap.size = A at hD ⊢
  have hA : ∀ q : Nat, s.heap.size ≤ q → A q := fun q h => by rw [← hAe]; exact Or.inr h
  have hS : va_S A s.heap s.heap [] := va_S.rf
  have hP : va_P D vwCl [(h0, .inr (4, [.null, .null, .null, .null, kz, .null, .null, .null, kz, kz, kz, .null, .null, kz]))] s.heap := hP
  have hl := lv_entry ([.ref h0]) (n := 1) (Nat.le_of_ble_eq_true rfl)
  rw [lg_entry_eq]
  generalize (lg_sl ([.ref h0]) ++ List.replicate (1 - (lg_sl ([.ref h0])).length) Slot.unset).toArray = ls at hl ⊢
  have hl : lv_has ls 1 [(0, .ref h0)] := hl
  refine lv_aload_n hx hb dX5_init_0 rfl (lv_at hl 0 rfl) ?_
  refine W.objInit hx hb hown (hts _ ol_X5) (hts _ oi_i) (hts _ oi_c) rfl (by rw [hml]; exact hl.1) rfl dX5_init_1 (Nat.le_of_ble_eq_true rfl) (Nat.le_of_ble_eq_true rfl) ?_
  refine W.eq (g2 := F0 m 4 ls []) rfl ?_
  refine lv_aload_n hx hb dX5_init_4 rfl (lv_at hl 0 rfl) ?_
  refine lv_bipush (v := 75) hx hb dX5_init_5 (by decide) ?_
  refine va_newa (atype := .int) (n := 75) (N' := 75) (a0 := (75, .inl (fun _ => Int32.ofInt 0))) hx hb (hts _ ac_i) rfl hK hP hD hS hA (fun _ => rfl) (by decide) (by decide) (by decide) (Nat.le_of_ble_eq_true rfl) (Nat.le_of_ble_eq_true rfl) dX5_init_7 (fun q1 cB H hKb hP hD hS => ?_)
  rw [kq_cAe hKb] at hP hD
  have hP : va_P D vwCl [(h0, .inr (4, [.null, .null, .null, .null, kz, .null, .null, .null, kz, kz, kz, .null, .null, kz])), (q1, ka cA 75)] H := hP
  have hD : va_D A [(h0, .inr (4, [.null, .null, .null, .null, kz, .null, .null, .null, kz, kz, kz, .null, .null, kz])), (q1, ka cA 75)] := hD
  refine W.widen (k := 1) (n := 75) (by omega) (by omega) ?_
  refine va_putF (D := D) (ci := 4) (v := .ref q1) (ty := (.array .int)) (C := RX5) (T := TX5) (N := 14) hx hb hts cf_X5.2.1 tyX5 tyX5_ok nmX5 hown hK hP hD hS 0 rfl rfl 0 (by decide) (hts _ fk_X5_9) (fun _ h9 => h9) rfl hin rfl (by decide +kernel) rfl rfl (Nat.le_of_ble_eq_true rfl) dX5_init_9 (fun H locs hP hD hS => ?_)
  have hP : va_P D vwCl [(h0, .inr (4, [.ref q1, .null, .null, .null, kz, .null, .null, .null, kz, kz, kz, .null, .null, kz])), (q1, ka cA 75)] H := hP
  have hD : va_D A [(h0, .inr (4, [.ref q1, .null, .null, .null, kz, .null, .null, .null, kz, kz, kz, .null, .null, kz])), (q1, ka cA 75)] := hD
  refine lv_aload_n hx hb dX5_init_12 rfl (lv_at hl 0 rfl) ?_
  refine lv_bipush (v := 75) hx hb dX5_init_13 (by decide) ?_
  refine va_newa (atype := .int) (n := 75) (N' := 75) (a0 := (75, .inl (fun _ => Int32.ofInt 0))) hx hb (hts _ ac_i) rfl hK hP hD hS hA (fun _ => rfl) (by decide) (by decide) (by decide) (Nat.le_of_ble_eq_true rfl) (Nat.le_of_ble_eq_true rfl) dX5_init_15 (fun q2 cB H hKb hP hD hS => ?_)
  rw [kq_cAe hKb] at hP hD
  have hP : va_P D vwCl [(h0, .inr (4, [.ref q1, .null, .null, .null, kz, .null, .null, .null, kz, kz, kz, .null, .null, kz])), (q1, ka cA 75), (q2, ka cA 75)] H := hP
  have hD : va_D A [(h0, .inr (4, [.ref q1, .null, .null, .null, kz, .null, .null, .null, kz, kz, kz, .null, .null, kz])), (q1, ka cA 75), (q2, ka cA 75)] := hD
  refine W.widen (k := 2) (n := 150) (by omega) (by omega) ?_
  refine va_putF (D := D) (ci := 4) (v := .ref q2) (ty := (.array .int)) (C := RX5) (T := TX5) (N := 14) hx hb hts cf_X5.2.1 tyX5 tyX5_ok nmX5 hown hK hP hD hS 0 rfl rfl 1 (by decide) (hts _ fk_X5_13) (fun _ h9 => h9) rfl hin rfl (by decide +kernel) rfl rfl (Nat.le_of_ble_eq_true rfl) dX5_init_17 (fun H locs hP hD hS => ?_)
  have hP : va_P D vwCl [(h0, .inr (4, [.ref q1, .ref q2, .null, .null, kz, .null, .null, .null, kz, kz, kz, .null, .null, kz])), (q1, ka cA 75), (q2, ka cA 75)] H := hP
  have hD : va_D A [(h0, .inr (4, [.ref q1, .ref q2, .null, .null, kz, .null, .null, .null, kz, kz, kz, .null, .null, kz])), (q1, ka cA 75), (q2, ka cA 75)] := hD
  refine lv_aload_n hx hb dX5_init_20 rfl (lv_at hl 0 rfl) ?_
  refine lv_bipush (v := 75) hx hb dX5_init_21 (by decide) ?_
  refine va_newa (atype := .int) (n := 75) (N' := 75) (a0 := (75, .inl (fun _ => Int32.ofInt 0))) hx hb (hts _ ac_i) rfl hK hP hD hS hA (fun _ => rfl) (by decide) (by decide) (by decide) (Nat.le_of_ble_eq_true rfl) (Nat.le_of_ble_eq_true rfl) dX5_init_23 (fun q3 cB H hKb hP hD hS => ?_)
  rw [kq_cAe hKb] at hP hD
  have hP : va_P D vwCl [(h0, .inr (4, [.ref q1, .ref q2, .null, .null, kz, .null, .null, .null, kz, kz, kz, .null, .null, kz])), (q1, ka cA 75), (q2, ka cA 75), (q3, ka cA 75)] H := hP
  have hD : va_D A [(h0, .inr (4, [.ref q1, .ref q2, .null, .null, kz, .null, .null, .null, kz, kz, kz, .null, .null, kz])), (q1, ka cA 75), (q2, ka cA 75), (q3, ka cA 75)] := hD
  refine W.widen (k := 3) (n := 225) (by omega) (by omega) ?_
  refine va_putF (D := D) (ci := 4) (v := .ref q3) (ty := (.array .int)) (C := RX5) (T := TX5) (N := 14) hx hb hts cf_X5.2.1 tyX5 tyX5_ok nmX5 hown hK hP hD hS 0 rfl rfl 2 (by decide) (hts _ fk_X5_16) (fun _ h9 => h9) rfl hin rfl (by decide +kernel) rfl rfl (Nat.le_of_ble_eq_true rfl) dX5_init_25 (fun H locs hP hD hS => ?_)
  have hP : va_P D vwCl [(h0, .inr (4, [.ref q1, .ref q2, .ref q3, .null, kz, .null, .null, .null, kz, kz, kz, .null, .null, kz])), (q1, ka cA 75), (q2, ka cA 75), (q3, ka cA 75)] H := hP
  have hD : va_D A [(h0, .inr (4, [.ref q1, .ref q2, .ref q3, .null, kz, .null, .null, .null, kz, kz, kz, .null, .null, kz])), (q1, ka cA 75), (q2, ka cA 75), (q3, ka cA 75)] := hD
  refine lv_aload_n hx hb dX5_init_28 rfl (lv_at hl 0 rfl) ?_
  refine lv_bipush (v := 75) hx hb dX5_init_29 (by decide) ?_
  refine va_newa (atype := .int) (n := 75) (N' := 75) (a0 := (75, .inl (fun _ => Int32.ofInt 0))) hx hb (hts _ ac_i) rfl hK hP hD hS hA (fun _ => rfl) (by decide) (by decide) (by decide) (Nat.le_of_ble_eq_true rfl) (Nat.le_of_ble_eq_true rfl) dX5_init_31 (fun q4 cB H hKb hP hD hS => ?_)
  rw [kq_cAe hKb] at hP hD
  have hP : va_P D vwCl [(h0, .inr (4, [.ref q1, .ref q2, .ref q3, .null, kz, .null, .null, .null, kz, kz, kz, .null, .null, kz])), (q1, ka cA 75), (q2, ka cA 75), (q3, ka cA 75), (q4, ka cA 75)] H := hP
  have hD : va_D A [(h0, .inr (4, [.ref q1, .ref q2, .ref q3, .null, kz, .null, .null, .null, kz, kz, kz, .null, .null, kz])), (q1, ka cA 75), (q2, ka cA 75), (q3, ka cA 75), (q4, ka cA 75)] := hD
  refine W.widen (k := 4) (n := 300) (by omega) (by omega) ?_
  refine va_putF (D := D) (ci := 4) (v := .ref q4) (ty := (.array .int)) (C := RX5) (T := TX5) (N := 14) hx hb hts cf_X5.2.1 tyX5 tyX5_ok nmX5 hown hK hP hD hS 0 rfl rfl 3 (by decide) (hts _ fk_X5_19) (fun _ h9 => h9) rfl hin rfl (by decide +kernel) rfl rfl (Nat.le_of_ble_eq_true rfl) dX5_init_33 (fun H locs hP hD hS => ?_)
  have hP : va_P D vwCl [(h0, .inr (4, [.ref q1, .ref q2, .ref q3, .ref q4, kz, .null, .null, .null, kz, kz, kz, .null, .null, kz])), (q1, ka cA 75), (q2, ka cA 75), (q3, ka cA 75), (q4, ka cA 75)] H := hP
  have hD : va_D A [(h0, .inr (4, [.ref q1, .ref q2, .ref q3, .ref q4, kz, .null, .null, .null, kz, kz, kz, .null, .null, kz])), (q1, ka cA 75), (q2, ka cA 75), (q3, ka cA 75), (q4, ka cA 75)] := hD
  refine lv_aload_n hx hb dX5_init_36 rfl (lv_at hl 0 rfl) ?_
  refine lv_bipush (v := 96) hx hb dX5_init_37 (by decide) ?_
  refine va_newa (atype := .int) (n := 96) (N' := 96) (a0 := (96, .inl (fun _ => Int32.ofInt 0))) hx hb (hts _ ac_i) rfl hK hP hD hS hA (fun _ => rfl) (by decide) (by decide) (by decide) (Nat.le_of_ble_eq_true rfl) (Nat.le_of_ble_eq_true rfl) dX5_init_39 (fun q5 cB H hKb hP hD hS => ?_)
  rw [kq_cAe hKb] at hP hD
  have hP : va_P D vwCl [(h0, .inr (4, [.ref q1, .ref q2, .ref q3, .ref q4, kz, .null, .null, .null, kz, kz, kz, .null, .null, kz])), (q1, ka cA 75), (q2, ka cA 75), (q3, ka cA 75), (q4, ka cA 75), (q5, ka cA 96)] H := hP
  have hD : va_D A [(h0, .inr (4, [.ref q1, .ref q2, .ref q3, .ref q4, kz, .null, .null, .null, kz, kz, kz, .null, .null, kz])), (q1, ka cA 75), (q2, ka cA 75), (q3, ka cA 75), (q4, ka cA 75), (q5, ka cA 96)] := hD
  refine W.widen (k := 5) (n := 396) (by omega) (by omega) ?_
  refine va_putF (D := D) (ci := 4) (v := .ref q5) (ty := (.array .int)) (C := RX5) (T := TX5) (N := 14) hx hb hts cf_X5.2.1 tyX5 tyX5_ok nmX5 hown hK hP hD hS 0 rfl rfl 5 (by decide) (hts _ fk_X5_22) (fun _ h9 => h9) rfl hin rfl (by decide +kernel) rfl rfl (Nat.le_of_ble_eq_true rfl) dX5_init_41 (fun H locs hP hD hS => ?_)
  have hP : va_P D vwCl [(h0, .inr (4, [.ref q1, .ref q2, .ref q3, .ref q4, kz, .ref q5, .null, .null, kz, kz, kz, .null, .null, kz])), (q1, ka cA 75), (q2, ka cA 75), (q3, ka cA 75), (q4, ka cA 75), (q5, ka cA 96)] H := hP
  have hD : va_D A [(h0, .inr (4, [.ref q1, .ref q2, .ref q3, .ref q4, kz, .ref q5, .null, .null, kz, kz, kz, .null, .null, kz])), (q1, ka cA 75), (q2, ka cA 75), (q3, ka cA 75), (q4, ka cA 75), (q5, ka cA 96)] := hD
  refine lv_aload_n hx hb dX5_init_44 rfl (lv_at hl 0 rfl) ?_
  refine lv_bipush (v := 16) hx hb dX5_init_45 (by decide) ?_
  refine va_newa (atype := .int) (n := 16) (N' := 16) (a0 := (16, .inl (fun _ => Int32.ofInt 0))) hx hb (hts _ ac_i) rfl hK hP hD hS hA (fun _ => rfl) (by decide) (by decide) (by decide) (Nat.le_of_ble_eq_true rfl) (Nat.le_of_ble_eq_true rfl) dX5_init_47 (fun q6 cB H hKb hP hD hS => ?_)
  rw [kq_cAe hKb] at hP hD
  have hP : va_P D vwCl [(h0, .inr (4, [.ref q1, .ref q2, .ref q3, .ref q4, kz, .ref q5, .null, .null, kz, kz, kz, .null, .null, kz])), (q1, ka cA 75), (q2, ka cA 75), (q3, ka cA 75), (q4, ka cA 75), (q5, ka cA 96), (q6, ka cA 16)] H := hP
  have hD : va_D A [(h0, .inr (4, [.ref q1, .ref q2, .ref q3, .ref q4, kz, .ref q5, .null, .null, kz, kz, kz, .null, .null, kz])), (q1, ka cA 75), (q2, ka cA 75), (q3, ka cA 75), (q4, ka cA 75), (q5, ka cA 96), (q6, ka cA 16)] := hD
  refine W.widen (k := 6) (n := 412) (by omega) (by omega) ?_
  refine va_putF (D := D) (ci := 4) (v := .ref q6) (ty := (.array .int)) (C := RX5) (T := TX5) (N := 14) hx hb hts cf_X5.2.1 tyX5 tyX5_ok nmX5 hown hK hP hD hS 0 rfl rfl 6 (by decide) (hts _ fk_X5_25) (fun _ h9 => h9) rfl hin rfl (by decide +kernel) rfl rfl (Nat.le_of_ble_eq_true rfl) dX5_init_49 (fun H locs hP hD hS => ?_)
  have hP : va_P D vwCl [(h0, .inr (4, [.ref q1, .ref q2, .ref q3, .ref q4, kz, .ref q5, .ref q6, .null, kz, kz, kz, .null, .null, kz])), (q1, ka cA 75), (q2, ka cA 75), (q3, ka cA 75), (q4, ka cA 75), (q5, ka cA 96), (q6, ka cA 16)] H := hP
  have hD : va_D A [(h0, .inr (4, [.ref q1, .ref q2, .ref q3, .ref q4, kz, .ref q5, .ref q6, .null, kz, kz, kz, .null, .null, kz])), (q1, ka cA 75), (q2, ka cA 75), (q3, ka cA 75), (q4, ka cA 75), (q5, ka cA 96), (q6, ka cA 16)] := hD
  refine lv_aload_n hx hb dX5_init_52 rfl (lv_at hl 0 rfl) ?_
  refine lv_bipush (v := 7) hx hb dX5_init_53 (by decide) ?_
  refine va_newa (atype := .int) (n := 7) (N' := 7) (a0 := (7, .inl (fun _ => Int32.ofInt 0))) hx hb (hts _ ac_i) rfl hK hP hD hS hA (fun _ => rfl) (by decide) (by decide) (by decide) (Nat.le_of_ble_eq_true rfl) (Nat.le_of_ble_eq_true rfl) dX5_init_55 (fun q7 cB H hKb hP hD hS => ?_)
  rw [kq_cAe hKb] at hP hD
  have hP : va_P D vwCl [(h0, .inr (4, [.ref q1, .ref q2, .ref q3, .ref q4, kz, .ref q5, .ref q6, .null, kz, kz, kz, .null, .null, kz])), (q1, ka cA 75), (q2, ka cA 75), (q3, ka cA 75), (q4, ka cA 75), (q5, ka cA 96), (q6, ka cA 16), (q7, ka cA 7)] H := hP
  have hD : va_D A [(h0, .inr (4, [.ref q1, .ref q2, .ref q3, .ref q4, kz, .ref q5, .ref q6, .null, kz, kz, kz, .null, .null, kz])), (q1, ka cA 75), (q2, ka cA 75), (q3, ka cA 75), (q4, ka cA 75), (q5, ka cA 96), (q6, ka cA 16), (q7, ka cA 7)] := hD
  refine W.widen (k := 7) (n := 419) (by omega) (by omega) ?_
  refine va_putF (D := D) (ci := 4) (v := .ref q7) (ty := (.array .int)) (C := RX5) (T := TX5) (N := 14) hx hb hts cf_X5.2.1 tyX5 tyX5_ok nmX5 hown hK hP hD hS 0 rfl rfl 7 (by decide) (hts _ fk_X5_28) (fun _ h9 => h9) rfl hin rfl (by decide +kernel) rfl rfl (Nat.le_of_ble_eq_true rfl) dX5_init_57 (fun H locs hP hD hS => ?_)
  have hP : va_P D vwCl [(h0, .inr (4, [.ref q1, .ref q2, .ref q3, .ref q4, kz, .ref q5, .ref q6, .ref q7, kz, kz, kz, .null, .null, kz])), (q1, ka cA 75), (q2, ka cA 75), (q3, ka cA 75), (q4, ka cA 75), (q5, ka cA 96), (q6, ka cA 16), (q7, ka cA 7)] H := hP
  have hD : va_D A [(h0, .inr (4, [.ref q1, .ref q2, .ref q3, .ref q4, kz, .ref q5, .ref q6, .ref q7, kz, kz, kz, .null, .null, kz])), (q1, ka cA 75), (q2, ka cA 75), (q3, ka cA 75), (q4, ka cA 75), (q5, ka cA 96), (q6, ka cA 16), (q7, ka cA 7)] := hD
  refine lv_aload_n hx hb dX5_init_60 rfl (lv_at hl 0 rfl) ?_
  refine lv_iconst (v := 4) hx hb dX5_init_61 (by decide) ?_
  refine va_newa (atype := .int) (n := 4) (N' := 4) (a0 := (4, .inl (fun _ => Int32.ofInt 0))) hx hb (hts _ ac_i) rfl hK hP hD hS hA (fun _ => rfl) (by decide) (by decide) (by decide) (Nat.le_of_ble_eq_true rfl) (Nat.le_of_ble_eq_true rfl) dX5_init_62 (fun q8 cB H hKb hP hD hS => ?_)
  rw [kq_cAe hKb] at hP hD
  have hP : va_P D vwCl [(h0, .inr (4, [.ref q1, .ref q2, .ref q3, .ref q4, kz, .ref q5, .ref q6, .ref q7, kz, kz, kz, .null, .null, kz])), (q1, ka cA 75), (q2, ka cA 75), (q3, ka cA 75), (q4, ka cA 75), (q5, ka cA 96), (q6, ka cA 16), (q7, ka cA 7), (q8, ka cA 4)] H := hP
  have hD : va_D A [(h0, .inr (4, [.ref q1, .ref q2, .ref q3, .ref q4, kz, .ref q5, .ref q6, .ref q7, kz, kz, kz, .null, .null, kz])), (q1, ka cA 75), (q2, ka cA 75), (q3, ka cA 75), (q4, ka cA 75), (q5, ka cA 96), (q6, ka cA 16), (q7, ka cA 7), (q8, ka cA 4)] := hD
  refine W.widen (k := 8) (n := 423) (by omega) (by omega) ?_
  refine va_putF (D := D) (ci := 4) (v := .ref q8) (ty := (.array .int)) (C := RX5) (T := TX5) (N := 14) hx hb hts cf_X5.2.1 tyX5 tyX5_ok nmX5 hown hK hP hD hS 0 rfl rfl 11 (by decide) (hts _ fk_X5_31) (fun _ h9 => h9) rfl hin rfl (by decide +kernel) rfl rfl (Nat.le_of_ble_eq_true rfl) dX5_init_64 (fun H locs hP hD hS => ?_)
  have hP : va_P D vwCl [(h0, .inr (4, [.ref q1, .ref q2, .ref q3, .ref q4, kz, .ref q5, .ref q6, .ref q7, kz, kz, kz, .ref q8, .null, kz])), (q1, ka cA 75), (q2, ka cA 75), (q3, ka cA 75), (q4, ka cA 75), (q5, ka cA 96), (q6, ka cA 16), (q7, ka cA 7), (q8, ka cA 4)] H := hP
  have hD : va_D A [(h0, .inr (4, [.ref q1, .ref q2, .ref q3, .ref q4, kz, .ref q5, .ref q6, .ref q7, kz, kz, kz, .ref q8, .null, kz])), (q1, ka cA 75), (q2, ka cA 75), (q3, ka cA 75), (q4, ka cA 75), (q5, ka cA 96), (q6, ka cA 16), (q7, ka cA 7), (q8, ka cA 4)] := hD
  refine lv_aload_n hx hb dX5_init_67 rfl (lv_at hl 0 rfl) ?_
  refine lv_bipush (v := 7) hx hb dX5_init_68 (by decide) ?_
  refine va_newa (atype := .int) (n := 7) (N' := 7) (a0 := (7, .inl (fun _ => Int32.ofInt 0))) hx hb (hts _ ac_i) rfl hK hP hD hS hA (fun _ => rfl) (by decide) (by decide) (by decide) (Nat.le_of_ble_eq_true rfl) (Nat.le_of_ble_eq_true rfl) dX5_init_70 (fun q9 cB H hKb hP hD hS => ?_)
  rw [kq_cAe hKb] at hP hD
  have hP : va_P D vwCl [(h0, .inr (4, [.ref q1, .ref q2, .ref q3, .ref q4, kz, .ref q5, .ref q6, .ref q7, kz, kz, kz, .ref q8, .null, kz])), (q1, ka cA 75), (q2, ka cA 75), (q3, ka cA 75), (q4, ka cA 75), (q5, ka cA 96), (q6, ka cA 16), (q7, ka cA 7), (q8, ka cA 4), (q9, ka cA 7)] H := hP
  have hD : va_D A [(h0, .inr (4, [.ref q1, .ref q2, .ref q3, .ref q4, kz, .ref q5, .ref q6, .ref q7, kz, kz, kz, .ref q8, .null, kz])), (q1, ka cA 75), (q2, ka cA 75), (q3, ka cA 75), (q4, ka cA 75), (q5, ka cA 96), (q6, ka cA 16), (q7, ka cA 7), (q8, ka cA 4), (q9, ka cA 7)] := hD
  refine W.widen (k := 9) (n := 430) (by omega) (by omega) ?_
  refine va_putF (D := D) (ci := 4) (v := .ref q9) (ty := (.array .int)) (C := RX5) (T := TX5) (N := 14) hx hb hts cf_X5.2.1 tyX5 tyX5_ok nmX5 hown hK hP hD hS 0 rfl rfl 12 (by decide) (hts _ fk_X5_34) (fun _ h9 => h9) rfl hin rfl (by decide +kernel) rfl rfl (Nat.le_of_ble_eq_true rfl) dX5_init_72 (fun H locs hP hD hS => ?_)
  have hP : va_P D vwCl [(h0, .inr (4, [.ref q1, .ref q2, .ref q3, .ref q4, kz, .ref q5, .ref q6, .ref q7, kz, kz, kz, .ref q8, .ref q9, kz])), (q1, ka cA 75), (q2, ka cA 75), (q3, ka cA 75), (q4, ka cA 75), (q5, ka cA 96), (q6, ka cA 16), (q7, ka cA 7), (q8, ka cA 4), (q9, ka cA 7)] H := hP
  have hD : va_D A [(h0, .inr (4, [.ref q1, .ref q2, .ref q3, .ref q4, kz, .ref q5, .ref q6, .ref q7, kz, kz, kz, .ref q8, .ref q9, kz])), (q1, ka cA 75), (q2, ka cA 75), (q3, ka cA 75), (q4, ka cA 75), (q5, ka cA 96), (q6, ka cA 16), (q7, ka cA 7), (q8, ka cA 4), (q9, ka cA 7)] := hD
  exact W.vret hx hb hr (fun t ht hW => ⟨⟨(), rfl, trivial, q1, q2, q3, q4, q5, q6, q7, q8, q9, by rw [ht]; exact hP, hD⟩, hS.F ht⟩) hS.2.2 dX5_init_75
end INIT2
