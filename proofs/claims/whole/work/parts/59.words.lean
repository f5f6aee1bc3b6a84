section INIT
abbrev kz : Value := .int (Int32.ofInt 0)
abbrev ka (cA : ClassId) (n : Nat) : va_E := .inl (cA, n, .inl (fun _ => Int32.ofInt 0))
theorem kq_cAe {D : va_G} {cl : List vw_C} {s : State} {cA cB : ClassId} (h : va_K D cl ([(cA, .int)] ++ [(cB, .int)]) s) : cB = cA := by
  have h1 : s.vm.findClass ("[" ++ (FieldType.int).toString) = some cA := (h.2 0 (cA, .int) rfl).2
  have h2 : s.vm.findClass ("[" ++ (FieldType.int).toString) = some cB := (h.2 1 (cB, .int) rfl).2
  exact Option.some.inj (h2.symm.trans h1)
theorem oi_i : Cond.instanceMethod objectInit ∈ kq_tb := kq_m (i := 74) (by decide +kernel) rfl
theorem oi_c : Cond.code objectInit ⟨#[0xb1]⟩ 1 none ∈ kq_tb := kq_m (i := 75) (by decide +kernel) rfl
theorem ac_i : Cond.arrayClass .int ∈ kq_tb := kq_m (i := 135) (by decide +kernel) rfl
theorem in_X0 : Cond.instantiable RX0 12 ∈ kq_tb := kq_m (i := 77) (by decide +kernel) rfl
theorem iz_X0 : Cond.initialized RX0 ∈ kq_tb := kq_m (i := 61) (by decide +kernel) rfl
theorem im_X0 : Cond.instanceMethod yX0_init ∈ kq_tb := kq_m (i := 79) (by decide +kernel) rfl
theorem ic_X0 : Cond.code yX0_init cX0_init 1 none ∈ kq_tb := kq_m (i := 80) (by decide +kernel) rfl
theorem gi_X0 : GoodIn kq_tb (Cond.code yX0_init cX0_init 1 none :: kq_tb) := kq_goodIn (fun w hw => by
  rcases List.mem_cons.mp hw with rfl | h
  · exact ic_X0
  · exact h)
theorem in_X2 : Cond.instantiable RX2 2 ∈ kq_tb := kq_m (i := 137) (by decide +kernel) rfl
theorem iz_X2 : Cond.initialized RX2 ∈ kq_tb := kq_m (i := 62) (by decide +kernel) rfl
theorem im_X2 : Cond.instanceMethod yX2_init ∈ kq_tb := kq_m (i := 139) (by decide +kernel) rfl
theorem ic_X2 : Cond.code yX2_init cX2_init 1 none ∈ kq_tb := kq_m (i := 140) (by decide +kernel) rfl
theorem gi_X2 : GoodIn kq_tb (Cond.code yX2_init cX2_init 1 none :: kq_tb) := kq_goodIn (fun w hw => by
  rcases List.mem_cons.mp hw with rfl | h
  · exact ic_X2
  · exact h)
theorem in_X3 : Cond.instantiable RX3 2 ∈ kq_tb := kq_m (i := 151) (by decide +kernel) rfl
theorem iz_X3 : Cond.initialized RX3 ∈ kq_tb := kq_m (i := 63) (by decide +kernel) rfl
theorem im_X3 : Cond.instanceMethod yX3_init ∈ kq_tb := kq_m (i := 153) (by decide +kernel) rfl
theorem ic_X3 : Cond.code yX3_init cX3_init 1 none ∈ kq_tb := kq_m (i := 154) (by decide +kernel) rfl
theorem gi_X3 : GoodIn kq_tb (Cond.code yX3_init cX3_init 1 none :: kq_tb) := kq_goodIn (fun w hw => by
  rcases List.mem_cons.mp hw with rfl | h
  · exact ic_X3
  · exact h)
theorem in_X4 : Cond.instantiable RX4 9 ∈ kq_tb := kq_m (i := 69) (by decide +kernel) rfl
theorem iz_X4 : Cond.initialized RX4 ∈ kq_tb := kq_m (i := 60) (by decide +kernel) rfl
theorem im_X4 : Cond.instanceMethod yX4_init ∈ kq_tb := kq_m (i := 71) (by decide +kernel) rfl
theorem ic_X4 : Cond.code yX4_init cX4_init 1 none ∈ kq_tb := kq_m (i := 72) (by decide +kernel) rfl
theorem gi_X4 : GoodIn kq_tb (Cond.code yX4_init cX4_init 1 none :: kq_tb) := kq_goodIn (fun w hw => by
  rcases List.mem_cons.mp hw with rfl | h
  · exact ic_X4
  · exact h)
theorem in_X5 : Cond.instantiable RX5 14 ∈ kq_tb := kq_m (i := 681) (by decide +kernel) rfl
theorem iz_X5 : Cond.initialized RX5 ∈ kq_tb := kq_m (i := 64) (by decide +kernel) rfl
theorem im_X5 : Cond.instanceMethod yX5_init ∈ kq_tb := kq_m (i := 683) (by decide +kernel) rfl
theorem ic_X5 : Cond.code yX5_init cX5_init 1 none ∈ kq_tb := kq_m (i := 684) (by decide +kernel) rfl
theorem gi_X5 : GoodIn kq_tb (Cond.code yX5_init cX5_init 1 none :: kq_tb) := kq_goodIn (fun w hw => by
  rcases List.mem_cons.mp hw with rfl | h
  · exact ic_X5
  · exact h)
theorem ol_X0 : Cond.methodLink RX0 3 objectInit ∈ kq_tb := kq_m (i := 81) (by decide +kernel) rfl
theorem fk_X0_9 : Cond.fieldLink RX0 9 (TX0 0).1 (TX0 0).2.1 (TX0 0).2.2.1 ∈ kq_tb := kq_m (i := 82) (by decide +kernel) rfl
theorem fk_X0_15 : Cond.fieldLink RX0 15 (TX0 1).1 (TX0 1).2.1 (TX0 1).2.2.1 ∈ kq_tb := kq_m (i := 85) (by decide +kernel) rfl
theorem fk_X0_19 : Cond.fieldLink RX0 19 (TX0 2).1 (TX0 2).2.1 (TX0 2).2.2.1 ∈ kq_tb := kq_m (i := 87) (by decide +kernel) rfl
theorem fk_X0_22 : Cond.fieldLink RX0 22 (TX0 3).1 (TX0 3).2.1 (TX0 3).2.2.1 ∈ kq_tb := kq_m (i := 89) (by decide +kernel) rfl
theorem fk_X0_25 : Cond.fieldLink RX0 25 (TX0 4).1 (TX0 4).2.1 (TX0 4).2.2.1 ∈ kq_tb := kq_m (i := 92) (by decide +kernel) rfl
theorem fk_X0_28 : Cond.fieldLink RX0 28 (TX0 5).1 (TX0 5).2.1 (TX0 5).2.2.1 ∈ kq_tb := kq_m (i := 95) (by decide +kernel) rfl
theorem fk_X0_31 : Cond.fieldLink RX0 31 (TX0 6).1 (TX0 6).2.1 (TX0 6).2.2.1 ∈ kq_tb := kq_m (i := 97) (by decide +kernel) rfl
theorem fk_X0_34 : Cond.fieldLink RX0 34 (TX0 7).1 (TX0 7).2.1 (TX0 7).2.2.1 ∈ kq_tb := kq_m (i := 99) (by decide +kernel) rfl
theorem fk_X0_37 : Cond.fieldLink RX0 37 (TX0 8).1 (TX0 8).2.1 (TX0 8).2.2.1 ∈ kq_tb := kq_m (i := 101) (by decide +kernel) rfl
theorem fk_X0_40 : Cond.fieldLink RX0 40 (TX0 9).1 (TX0 9).2.1 (TX0 9).2.2.1 ∈ kq_tb := kq_m (i := 103) (by decide +kernel) rfl
theorem fk_X0_43 : Cond.fieldLink RX0 43 (TX0 10).1 (TX0 10).2.1 (TX0 10).2.2.1 ∈ kq_tb := kq_m (i := 105) (by decide +kernel) rfl
theorem fk_X0_46 : Cond.fieldLink RX0 46 (TX0 11).1 (TX0 11).2.1 (TX0 11).2.2.1 ∈ kq_tb := kq_m (i := 107) (by decide +kernel) rfl
theorem ol_X2 : Cond.methodLink RX2 3 objectInit ∈ kq_tb := kq_m (i := 141) (by decide +kernel) rfl
theorem fk_X2_9 : Cond.fieldLink RX2 9 (TX2 0).1 (TX2 0).2.1 (TX2 0).2.2.1 ∈ kq_tb := kq_m (i := 142) (by decide +kernel) rfl
theorem fk_X2_15 : Cond.fieldLink RX2 15 (TX2 1).1 (TX2 1).2.1 (TX2 1).2.2.1 ∈ kq_tb := kq_m (i := 143) (by decide +kernel) rfl
theorem ol_X3 : Cond.methodLink RX3 3 objectInit ∈ kq_tb := kq_m (i := 155) (by decide +kernel) rfl
theorem fk_X3_9 : Cond.fieldLink RX3 9 (TX3 0).1 (TX3 0).2.1 (TX3 0).2.2.1 ∈ kq_tb := kq_m (i := 156) (by decide +kernel) rfl
theorem fk_X3_15 : Cond.fieldLink RX3 15 (TX3 1).1 (TX3 1).2.1 (TX3 1).2.2.1 ∈ kq_tb := kq_m (i := 157) (by decide +kernel) rfl
theorem ol_X5 : Cond.methodLink RX5 1 objectInit ∈ kq_tb := kq_m (i := 685) (by decide +kernel) rfl
theorem fk_X5_9 : Cond.fieldLink RX5 9 (TX5 0).1 (TX5 0).2.1 (TX5 0).2.2.1 ∈ kq_tb := kq_m (i := 686) (by decide +kernel) rfl
theorem fk_X5_13 : Cond.fieldLink RX5 13 (TX5 1).1 (TX5 1).2.1 (TX5 1).2.2.1 ∈ kq_tb := kq_m (i := 687) (by decide +kernel) rfl
theorem fk_X5_16 : Cond.fieldLink RX5 16 (TX5 2).1 (TX5 2).2.1 (TX5 2).2.2.1 ∈ kq_tb := kq_m (i := 688) (by decide +kernel) rfl
theorem fk_X5_19 : Cond.fieldLink RX5 19 (TX5 3).1 (TX5 3).2.1 (TX5 3).2.2.1 ∈ kq_tb := kq_m (i := 689) (by decide +kernel) rfl
theorem fk_X5_22 : Cond.fieldLink RX5 22 (TX5 5).1 (TX5 5).2.1 (TX5 5).2.2.1 ∈ kq_tb := kq_m (i := 691) (by decide +kernel) rfl
theorem fk_X5_25 : Cond.fieldLink RX5 25 (TX5 6).1 (TX5 6).2.1 (TX5 6).2.2.1 ∈ kq_tb := kq_m (i := 692) (by decide +kernel) rfl
theorem fk_X5_28 : Cond.fieldLink RX5 28 (TX5 7).1 (TX5 7).2.1 (TX5 7).2.2.1 ∈ kq_tb := kq_m (i := 693) (by decide +kernel) rfl
theorem fk_X5_31 : Cond.fieldLink RX5 31 (TX5 11).1 (TX5 11).2.1 (TX5 11).2.2.1 ∈ kq_tb := kq_m (i := 697) (by decide +kernel) rfl
theorem fk_X5_34 : Cond.fieldLink RX5 34 (TX5 12).1 (TX5 12).2.1 (TX5 12).2.2.1 ∈ kq_tb := kq_m (i := 698) (by decide +kernel) rfl
theorem ol_X4 : Cond.methodLink RX4 1 objectInit ∈ kq_tb := kq_m (i := 73) (by decide +kernel) rfl
theorem cl_X4_7 : Cond.classLink RX4 7 RX0 ∈ kq_tb := kq_m (i := 76) (by decide +kernel) rfl
theorem il_X4_9 : Cond.methodLink RX4 9 yX0_init ∈ kq_tb := kq_m (i := 78) (by decide +kernel) rfl
theorem fk_X4_10 : Cond.fieldLink RX4 10 (TX4 0).1 (TX4 0).2.1 (TX4 0).2.2.1 ∈ kq_tb := kq_m (i := 163) (by decide +kernel) rfl
theorem fk_X4_16 : Cond.fieldLink RX4 16 (TX4 1).1 (TX4 1).2.1 (TX4 1).2.2.1 ∈ kq_tb := kq_m (i := 164) (by decide +kernel) rfl
theorem fk_X4_19 : Cond.fieldLink RX4 19 (TX4 2).1 (TX4 2).2.1 (TX4 2).2.2.1 ∈ kq_tb := kq_m (i := 165) (by decide +kernel) rfl
theorem fk_X4_22 : Cond.fieldLink RX4 22 (TX4 3).1 (TX4 3).2.1 (TX4 3).2.2.1 ∈ kq_tb := kq_m (i := 166) (by decide +kernel) rfl
theorem cl_X4_26 : Cond.classLink RX4 26 RX2 ∈ kq_tb := kq_m (i := 136) (by decide +kernel) rfl
theorem il_X4_28 : Cond.methodLink RX4 28 yX2_init ∈ kq_tb := kq_m (i := 138) (by decide +kernel) rfl
theorem fk_X4_29 : Cond.fieldLink RX4 29 (TX4 4).1 (TX4 4).2.1 (TX4 4).2.2.1 ∈ kq_tb := kq_m (i := 167) (by decide +kernel) rfl
theorem cl_X4_33 : Cond.classLink RX4 33 RX3 ∈ kq_tb := kq_m (i := 150) (by decide +kernel) rfl
theorem il_X4_35 : Cond.methodLink RX4 35 yX3_init ∈ kq_tb := kq_m (i := 152) (by decide +kernel) rfl
theorem fk_X4_36 : Cond.fieldLink RX4 36 (TX4 5).1 (TX4 5).2.1 (TX4 5).2.2.1 ∈ kq_tb := kq_m (i := 168) (by decide +kernel) rfl
theorem fk_X4_40 : Cond.fieldLink RX4 40 (TX4 6).1 (TX4 6).2.1 (TX4 6).2.2.1 ∈ kq_tb := kq_m (i := 169) (by decide +kernel) rfl
theorem fk_X4_44 : Cond.fieldLink RX4 44 (TX4 7).1 (TX4 7).2.1 (TX4 7).2.2.1 ∈ kq_tb := kq_m (i := 170) (by decide +kernel) rfl
theorem fk_X4_48 : Cond.fieldLink RX4 48 (TX4 8).1 (TX4 8).2.1 (TX4 8).2.2.1 ∈ kq_tb := kq_m (i := 171) (by decide +kernel) rfl
end INIT
