section PUB8
variable {l : Launch} {σ M : KS}
theorem ib_and_as {x y z : Int} : ib_and (ib_and x y) z = ib_and x (ib_and y z) := by
  unfold ib_and
  rw [Int32.ofInt_toInt, Int32.ofInt_toInt, Int32.and_assoc]
def m_co (a : RW) : Nat → Int
  | 0 => 127
  | n + 1 => ib_and (m_co a n) (ib_and (ib_xor (ib_shl 1 (aD a n 2)) (-1)) (ib_xor (ib_shl 1 (aD a n 3)) (-1)))
theorem m_co_s {a : RW} {i : Int} (h : 0 ≤ i) : m_co a (i + 1).toNat = ib_and (m_co a i.toNat) (ib_and (ib_xor (ib_shl 1 (aD a i 2)) (-1)) (ib_xor (ib_shl 1 (aD a i 3)) (-1))) := by
  obtain ⟨n, rfl⟩ := Int.eq_ofNat_of_zero_le h
  rfl
def A_cutOff (M : KS) : Int × KS := (m_co (M 39) (M 39 0).toNat, M)
theorem pc_cutOff (hM : OkM M) (hC : RC σ M) : Ev l yX4_cutOff cX4_cutOff 3 (some .int) 0 0 [kr 0] σ (QC (A_cutOff M) σ) := by
  have R := hC.1
  have ok := hM.1
  have n9 := ok.1
  have s0 : σ 1 0 = M 39 0 := R.1
  refine ev_intro ym_X4_cutOff.1 (Nat.le_of_ble_eq_true rfl) (fun hv hσ K S => ?_)
  have hv := hv
  show K 0 [some (kr 0), none, none] [] σ
  refine kq_use (kq_for (α := Int) (M 39 0) (fun i s => 0 ≤ i ∧ s = m_co (M 39) i.toNat) (fun i s => K 5 [some (kr 0), some (ki s), some (ki i)] [] σ) ?_) (fun lp => ?_)
  · intro i s hi inv ih
    obtain ⟨i0, hs⟩ := inv
    refine ks_iload_n (n := 6) S dX4_cutOff_5 rfl rfl ?_
    refine ks_aload_n (n := 7) S dX4_cutOff_6 rfl rfl ?_
    refine ks_getr (n := 10) S dX4_cutOff_7 rfl fl_X4_10 rfl rfl ?_
    refine ks_getI (n := 13) (fi := 0) S dX4_cutOff_10 rfl fl_X4_161 kq_H1.o rfl rfl ?_
    refine ks_icmp_ge (n := 16) (tgt := 54) S dX4_cutOff_13 rfl rfl (fun h13 => ?_) (fun h13 => ?_)
    · skip
      refine ks_iload_n (n := 55) S dX4_cutOff_54 rfl rfl ?_
      refine ks_iret S dX4_cutOff_55 ?_
      refine qc_a hC ?_
      unfold A_cutOff
      rw [hs, show M 39 0 = i by omega]
    · skip
      obtain ⟨e1, e2, e3, e4, e5, e6⟩ := R.2.2.2.1 i i0 (by omega)
      refine ks_iload_n (n := 17) S dX4_cutOff_16 rfl rfl ?_
      refine ks_iconst (n := 18) S dX4_cutOff_17 rfl (by unfold iv; decide) ?_
      refine ks_aload_n (n := 19) S dX4_cutOff_18 rfl rfl ?_
      refine ks_getr (n := 22) S dX4_cutOff_19 rfl fl_X4_10 rfl rfl ?_
      refine ks_getr (n := 25) S dX4_cutOff_22 rfl fl_X4_84 kq_H1.o rfl ?_
      refine ks_iload_n (n := 26) S dX4_cutOff_25 rfl rfl ?_
      refine ks_iaload (n := 27) S dX4_cutOff_26 rfl kq_H1.a3 (by omega) ?_
      refine ks_ishl (n := 28) S dX4_cutOff_27 rfl ?_
      refine ks_iconst (n := 29) S dX4_cutOff_28 rfl (by unfold iv; decide) ?_
      refine ks_ixor (n := 30) S dX4_cutOff_29 rfl ?_
      refine ks_iand (n := 31) S dX4_cutOff_30 rfl ?_
      refine ks_istore_n (n := 32) S dX4_cutOff_31 rfl rfl (L' := fun y => [some (kr 0), some (ki y), some (ki i)]) (Nat.le_of_ble_eq_true rfl) (fun _ => rfl) (fun v1_31 hv31 => ?_)
      subst v1_31
      refine ks_iload_n (n := 33) S dX4_cutOff_32 rfl rfl ?_
      refine ks_iconst (n := 34) S dX4_cutOff_33 rfl (by unfold iv; decide) ?_
      refine ks_aload_n (n := 35) S dX4_cutOff_34 rfl rfl ?_
      refine ks_getr (n := 38) S dX4_cutOff_35 rfl fl_X4_10 rfl rfl ?_
      refine ks_getr (n := 41) S dX4_cutOff_38 rfl fl_X4_87 kq_H1.o rfl ?_
      refine ks_iload_n (n := 42) S dX4_cutOff_41 rfl rfl ?_
      refine ks_iaload (n := 43) S dX4_cutOff_42 rfl kq_H1.a4 (by omega) ?_
      refine ks_ishl (n := 44) S dX4_cutOff_43 rfl ?_
      refine ks_iconst (n := 45) S dX4_cutOff_44 rfl (by unfold iv; decide) ?_
      refine ks_ixor (n := 46) S dX4_cutOff_45 rfl ?_
      refine ks_iand (n := 47) S dX4_cutOff_46 rfl ?_
      refine ks_istore_n (n := 48) S dX4_cutOff_47 rfl rfl (L' := fun y => [some (kr 0), some (ki y), some (ki i)]) (Nat.le_of_ble_eq_true rfl) (fun _ => rfl) (fun v1_47 hv47 => ?_)
      subst v1_47
      refine ks_iinc (n := 51) S dX4_cutOff_48 rfl rfl (by omega) (L' := fun y => [some (kr 0), some (ki _), some (ki y)]) (fun _ => rfl) (fun v2_48 hv48 => ?_)
      subst v2_48
      refine ks_goto (n := 5) S dX4_cutOff_51 rfl ?_
      refine ih _ (by omega) ⟨by omega, ?_⟩
      rw [m_co_s i0, ← hs, ib_and_as, e3, e4]
  refine ks_bipush (n := 2) S dX4_cutOff_0 rfl (by unfold iv; decide) ?_
  refine ks_istore_n (n := 3) S dX4_cutOff_2 rfl rfl (L' := fun y => [some (kr 0), some (ki y), none]) (Nat.le_of_ble_eq_true rfl) (fun _ => rfl) (fun v1_2 hv2 => ?_)
  obtain rfl : v1_2 = 127 := by omega
  refine ks_iconst (n := 4) S dX4_cutOff_3 rfl (by unfold iv; decide) ?_
  refine ks_istore_n (n := 5) S dX4_cutOff_4 rfl rfl (L' := fun y => [some (kr 0), some (ki (127)), some (ki y)]) (Nat.le_of_ble_eq_true rfl) (fun _ => rfl) (fun v2_4 hv4 => ?_)
  obtain rfl : v2_4 = 0 := by omega
  exact lp 0 127 n9.1 ⟨by omega, rfl⟩
theorem pr_cutOff (hM : OkM M) (hR : RR σ M) : Ev l yX5_cutOff cX5_cutOff 3 (some .int) 1 21 [kr 38] σ (QR (A_cutOff M) σ) := by
  have e39 : σ 39 = M 39 := hR.1
  have ok := hM.1
  have n9 := ok.1
  have s0 : σ 39 0 = M 39 0 := by rw [e39]
  refine ev_intro ym_X5_cutOff.1 (Nat.le_of_ble_eq_true rfl) (fun hv hσ K S => ?_)
  have hv := hv
  show K 0 [some (kr 38), none, none] [] σ
  refine kq_use (kq_for (α := Int) (M 39 0) (fun i s => 0 ≤ i ∧ s = m_co (M 39) i.toNat) (fun i s => K 5 [some (kr 38), some (ki s), some (ki i)] [] σ) ?_) (fun lp => ?_)
  · intro i s hi inv ih
    obtain ⟨i0, hs⟩ := inv
    refine ks_iload_n (n := 6) S dX5_cutOff_5 rfl rfl ?_
    refine ks_aload_n (n := 7) S dX5_cutOff_6 rfl rfl ?_
    refine ks_getr (n := 10) S dX5_cutOff_7 rfl fl_X5_9 rfl rfl ?_
    refine ks_iconst (n := 11) S dX5_cutOff_10 rfl (by unfold iv; decide) ?_
    refine ks_iaload (n := 12) S dX5_cutOff_11 rfl rfl (by omega) ?_
    refine ks_icmp_ge (n := 15) (tgt := 53) S dX5_cutOff_12 rfl rfl (fun h12 => ?_) (fun h12 => ?_)
    · skip
      refine ks_iload_n (n := 54) S dX5_cutOff_53 rfl rfl ?_
      refine ks_iret S dX5_cutOff_54 ?_
      refine qr_a hR ?_
      unfold A_cutOff
      rw [hs, show M 39 0 = i by omega]
    · skip
      have e3 : σ 39 (3 + 6 * i + 2) = aD (M 39) i 2 := by rw [e39]; rfl
      have e4 : σ 39 (3 + 6 * i + 3) = aD (M 39) i 3 := by rw [e39]; rfl
      refine ks_iload_n (n := 16) S dX5_cutOff_15 rfl rfl ?_
      refine ks_iconst (n := 17) S dX5_cutOff_16 rfl (by unfold iv; decide) ?_
      refine ks_aload_n (n := 18) S dX5_cutOff_17 rfl rfl ?_
      refine ks_getr (n := 21) S dX5_cutOff_18 rfl fl_X5_9 rfl rfl ?_
      refine ks_iload_n (n := 22) S dX5_cutOff_21 rfl rfl ?_
      refine ks_iconst (n := 23) S dX5_cutOff_22 rfl (by unfold iv; decide) ?_
      refine kf_s2i (n := 26) S dX5_cutOff_23 rfl ml_X5_48 ym_X5_ofD (ev_X5_ofD (by omega) (by omega)) (by decide) (Nat.le_of_ble_eq_true rfl) ?_
      refine ks_iaload (n := 27) S dX5_cutOff_26 rfl rfl (by omega) ?_
      refine ks_ishl (n := 28) S dX5_cutOff_27 rfl ?_
      refine ks_iconst (n := 29) S dX5_cutOff_28 rfl (by unfold iv; decide) ?_
      refine ks_ixor (n := 30) S dX5_cutOff_29 rfl ?_
      refine ks_iconst (n := 31) S dX5_cutOff_30 rfl (by unfold iv; decide) ?_
      refine ks_aload_n (n := 32) S dX5_cutOff_31 rfl rfl ?_
      refine ks_getr (n := 35) S dX5_cutOff_32 rfl fl_X5_9 rfl rfl ?_
      refine ks_iload_n (n := 36) S dX5_cutOff_35 rfl rfl ?_
      refine ks_iconst (n := 37) S dX5_cutOff_36 rfl (by unfold iv; decide) ?_
      refine kf_s2i (n := 40) S dX5_cutOff_37 rfl ml_X5_48 ym_X5_ofD (ev_X5_ofD (by omega) (by omega)) (by decide) (Nat.le_of_ble_eq_true rfl) ?_
      refine ks_iaload (n := 41) S dX5_cutOff_40 rfl rfl (by omega) ?_
      refine ks_ishl (n := 42) S dX5_cutOff_41 rfl ?_
      refine ks_iconst (n := 43) S dX5_cutOff_42 rfl (by unfold iv; decide) ?_
      refine ks_ixor (n := 44) S dX5_cutOff_43 rfl ?_
      refine ks_iand (n := 45) S dX5_cutOff_44 rfl ?_
      refine ks_iand (n := 46) S dX5_cutOff_45 rfl ?_
      refine ks_istore_n (n := 47) S dX5_cutOff_46 rfl rfl (L' := fun y => [some (kr 38), some (ki y), some (ki i)]) (Nat.le_of_ble_eq_true rfl) (fun _ => rfl) (fun v1_46 hv46 => ?_)
      subst v1_46
      refine ks_iinc (n := 50) S dX5_cutOff_47 rfl rfl (by omega) (L' := fun y => [some (kr 38), some (ki _), some (ki y)]) (fun _ => rfl) (fun v2_47 hv47 => ?_)
      subst v2_47
      refine ks_goto (n := 5) S dX5_cutOff_50 rfl ?_
      refine ih _ (by omega) ⟨by omega, ?_⟩
      rw [m_co_s i0, ← hs, e3, e4]
  refine ks_bipush (n := 2) S dX5_cutOff_0 rfl (by unfold iv; decide) ?_
  refine ks_istore_n (n := 3) S dX5_cutOff_2 rfl rfl (L' := fun y => [some (kr 38), some (ki y), none]) (Nat.le_of_ble_eq_true rfl) (fun _ => rfl) (fun v1_2 hv2 => ?_)
  obtain rfl : v1_2 = 127 := by omega
  refine ks_iconst (n := 4) S dX5_cutOff_3 rfl (by unfold iv; decide) ?_
  refine ks_istore_n (n := 5) S dX5_cutOff_4 rfl rfl (L' := fun y => [some (kr 38), some (ki (127)), some (ki y)]) (Nat.le_of_ble_eq_true rfl) (fun _ => rfl) (fun v2_4 hv4 => ?_)
  obtain rfl : v2_4 = 0 := by omega
  exact lp 0 127 n9.1 ⟨by omega, rfl⟩
theorem ib_shl_b {n : Int} (h : 0 ≤ n ∧ n ≤ 9) : 1 ≤ ib_shl 1 n ∧ ib_shl 1 n ≤ 512 := by
  have key : ∀ k : Fin 10, 1 ≤ ib_shl 1 ((k : Nat) : Int) ∧ ib_shl 1 ((k : Nat) : Int) ≤ 512 := by decide +kernel
  have := key ⟨n.toNat, by omega⟩
  rw [show (((⟨n.toNat, by omega⟩ : Fin 10) : Nat) : Int) = n by show ((n.toNat : Nat) : Int) = n; omega] at this
  exact this
def A_count (M : KS) (w : Int) : Int × KS := (if 11 ≤ w ∧ w ≤ 16 then M 45 (w - 10) else if w = 0 then M 39 0 else if w = 1 then M 39 1 else if w = 2 then M 39 2 else if w = 3 then m_allH (M 39) else if w = 4 then m_allM (M 39) else if w = 5 then ib_and (ib_shl 1 (M 39 0) - 1) (ib_xor (m_vo (M 39) 9 (M 39 0).toNat) (-1)) else if w = 6 then M 38 9 else if w = 7 then M 38 8 else -9, M)
theorem ev_X4_refusalsCounted {n : Int} : Ev l yX4_refusalsCounted cX4_refusalsCounted 2 (some .int) 0 0 [kr 0, ki n] σ (Rt (some (ki (if 1 ≤ n ∧ n ≤ 6 then σ 37 n else -9))) σ) := by
  refine ev_intro ym_X4_refusalsCounted.1 (Nat.le_of_ble_eq_true rfl) (fun hv hσ K S => ?_)
  have hv := hv
  show K 0 [some (kr 0), some (ki n)] [] σ
  refine ks_iload_n (n := 1) S dX4_refusalsCounted_0 rfl rfl ?_
  refine ks_iconst (n := 2) S dX4_refusalsCounted_1 rfl (by unfold iv; decide) ?_
  refine ks_icmp_lt (n := 5) (tgt := 11) S dX4_refusalsCounted_2 rfl rfl (fun h2 => ?_) (fun h2 => ?_)
  · skip
    refine ks_bipush (n := 13) S dX4_refusalsCounted_11 rfl (by unfold iv; decide) ?_
    refine ks_goto (n := 22) S dX4_refusalsCounted_13 rfl ?_
    refine ks_iret S dX4_refusalsCounted_22 ?_
    first | exact rt_e (by rw [if_pos (by omega)]) | exact rt_e (by rw [if_neg (by omega)])
  · skip
    refine ks_iload_n (n := 6) S dX4_refusalsCounted_5 rfl rfl ?_
    refine ks_bipush (n := 8) S dX4_refusalsCounted_6 rfl (by unfold iv; decide) ?_
    refine ks_icmp_le (n := 11) (tgt := 16) S dX4_refusalsCounted_8 rfl rfl (fun h8 => ?_) (fun h8 => ?_)
    · skip
      refine ks_aload_n (n := 17) S dX4_refusalsCounted_16 rfl rfl ?_
      refine ks_getr (n := 20) S dX4_refusalsCounted_17 rfl fl_X4_48 rfl rfl ?_
      refine ks_iload_n (n := 21) S dX4_refusalsCounted_20 rfl rfl ?_
      refine ks_iaload (n := 22) S dX4_refusalsCounted_21 rfl rfl (by omega) ?_
      refine ks_iret S dX4_refusalsCounted_22 ?_
      first | exact rt_e (by rw [if_pos (by omega)]) | exact rt_e (by rw [if_neg (by omega)])
    · skip
      refine ks_bipush (n := 13) S dX4_refusalsCounted_11 rfl (by unfold iv; decide) ?_
      refine ks_goto (n := 22) S dX4_refusalsCounted_13 rfl ?_
      refine ks_iret S dX4_refusalsCounted_22 ?_
      first | exact rt_e (by rw [if_pos (by omega)]) | exact rt_e (by rw [if_neg (by omega)])
theorem pc_count {w : Int} (hM : OkM M) (hC : RC σ M) : Ev l yX4_count cX4_count 2 (some .int) 1 23 [kr 0, ki w] σ (QC (A_count M w) σ) := by
  have R := hC.1
  have ok := hM.1
  have n9 := ok.1
  have n6 := ok.2.1
  refine ev_intro ym_X4_count.1 (Nat.le_of_ble_eq_true rfl) (fun hv hσ K S => ?_)
  have hv := hv
  show K 0 [some (kr 0), some (ki w)] [] σ
  refine ks_iload_n (n := 1) S dX4_count_0 rfl rfl ?_
  have hw := vk_1 hv
  have s0 : σ 1 0 = M 39 0 := R.1
  have s7 : σ 1 7 = M 39 1 := R.2.1
  have s11 : σ 1 11 = M 39 2 := R.2.2.1
  have r7 : σ 0 7 = M 38 9 := hC.2.2.2.2.2.1
  have l8 : σ 31 1 = M 38 8 := hC.2.2.2.1
  have hsh := ib_shl_b n9
  have hwr := wr_e (w - 10)
  refine ks_table S (tdf := 125) [48, 56, 64, 72, 80, 88, 112, 117] dX4_count_1 (by decide) (by decide) rfl (fun h1 => ?_) (And.intro (fun h1 => ?_) (And.intro (fun h1 => ?_) (And.intro (fun h1 => ?_) (And.intro (fun h1 => ?_) (And.intro (fun h1 => ?_) (And.intro (fun h1 => ?_) (And.intro (fun h1 => ?_) (And.intro (fun h1 => ?_) trivial))))))))
  · skip
    refine ks_aload_n (n := 126) S dX4_count_125 rfl rfl ?_
    refine ks_iload_n (n := 127) S dX4_count_126 rfl rfl ?_
    refine ks_bipush (n := 129) S dX4_count_127 rfl (by unfold iv; decide) ?_
    refine ks_isubW (n := 130) S dX4_count_129 rfl ?_
    refine kf_v1i (n := 133) S dX4_count_130 rfl ml_X4_291 ym_X4_refusalsCounted (ev_X4_refusalsCounted) (by decide) rfl (Nat.le_of_ble_eq_true rfl) ?_
    refine ks_iret S dX4_count_133 ?_
    refine qc_a hC ?_
    unfold A_count
    refine congrArg (fun z => (z, M)) ?_
    by_cases hr : 11 ≤ w ∧ w ≤ 16
    · rw [if_pos hr, if_pos (by omega), show wr (w - 10) = w - 10 by omega]
      exact (hC.2.2.2.2.2.2.2 (w - 10) (by omega) (by omega)).symm
    · rw [if_neg hr, if_neg (show ¬ (1 ≤ wr (w - 10) ∧ wr (w - 10) ≤ 6) by omega), if_neg (by omega), if_neg (by omega), if_neg (by omega), if_neg (by omega), if_neg (by omega), if_neg (by omega), if_neg (by omega), if_neg (by omega)]
  · skip
    refine ks_aload_n (n := 49) S dX4_count_48 rfl rfl ?_
    refine ks_getr (n := 52) S dX4_count_49 rfl fl_X4_10 rfl rfl ?_
    refine ks_getI (n := 55) (fi := 0) S dX4_count_52 rfl fl_X4_161 kq_H1.o rfl rfl ?_
    refine ks_iret S dX4_count_55 ?_
    exact qc_a hC (by unfold A_count; refine congrArg (fun z => (z, M)) ?_; (repeat' split) <;> first | rfl | omega)
  · skip
    refine ks_aload_n (n := 57) S dX4_count_56 rfl rfl ?_
    refine ks_getr (n := 60) S dX4_count_57 rfl fl_X4_10 rfl rfl ?_
    refine ks_getI (n := 63) (fi := 7) S dX4_count_60 rfl fl_X4_226 kq_H1.o rfl rfl ?_
    refine ks_iret S dX4_count_63 ?_
    exact qc_a hC (by unfold A_count; refine congrArg (fun z => (z, M)) ?_; (repeat' split) <;> first | rfl | omega)
  · skip
    refine ks_aload_n (n := 65) S dX4_count_64 rfl rfl ?_
    refine ks_getr (n := 68) S dX4_count_65 rfl fl_X4_10 rfl rfl ?_
    refine ks_getI (n := 71) (fi := 11) S dX4_count_68 rfl fl_X4_133 kq_H1.o rfl rfl ?_
    refine ks_iret S dX4_count_71 ?_
    exact qc_a hC (by unfold A_count; refine congrArg (fun z => (z, M)) ?_; (repeat' split) <;> first | rfl | omega)
  · skip
    refine ks_aload_n (n := 73) S dX4_count_72 rfl rfl ?_
    refine ks_getr (n := 76) S dX4_count_73 rfl fl_X4_10 rfl rfl ?_
    refine kf_v0i (n := 79) S dX4_count_76 rfl ml_X4_139 ym_X0_allHeat (ev_X0_allHeat kq_H1 R ok) (by decide) kq_H1.o (Nat.le_of_ble_eq_true rfl) ?_
    refine ks_iret S dX4_count_79 ?_
    exact qc_a hC (by unfold A_count; refine congrArg (fun z => (z, M)) ?_; (repeat' split) <;> first | rfl | omega)
  · skip
    refine ks_aload_n (n := 81) S dX4_count_80 rfl rfl ?_
    refine ks_getr (n := 84) S dX4_count_81 rfl fl_X4_10 rfl rfl ?_
    refine kf_v0i (n := 87) S dX4_count_84 rfl ml_X4_279 ym_X0_allMood (ev_X0_allMood kq_H1 R ok) (by decide) kq_H1.o (Nat.le_of_ble_eq_true rfl) ?_
    refine ks_iret S dX4_count_87 ?_
    exact qc_a hC (by unfold A_count; refine congrArg (fun z => (z, M)) ?_; (repeat' split) <;> first | rfl | omega)
  · skip
    refine ks_iconst (n := 89) S dX4_count_88 rfl (by unfold iv; decide) ?_
    refine ks_aload_n (n := 90) S dX4_count_89 rfl rfl ?_
    refine ks_getr (n := 93) S dX4_count_90 rfl fl_X4_10 rfl rfl ?_
    refine ks_getI (n := 96) (fi := 0) S dX4_count_93 rfl fl_X4_161 kq_H1.o rfl rfl ?_
    refine ks_ishl (n := 97) S dX4_count_96 rfl ?_
    refine ks_iconst (n := 98) S dX4_count_97 rfl (by unfold iv; decide) ?_
    refine ks_isub (n := 99) S dX4_count_98 rfl (by rw [s0]; omega) ?_
    refine ks_aload_n (n := 100) S dX4_count_99 rfl rfl ?_
    refine ks_getr (n := 103) S dX4_count_100 rfl fl_X4_10 rfl rfl ?_
    refine ks_bipush (n := 105) S dX4_count_103 rfl (by unfold iv; decide) ?_
    refine kf_v1i (n := 108) S dX4_count_105 rfl ml_X4_217 ym_X0_doorsOfVoice (ev_X0_doorsOfVoice kq_H1 R ok) (by decide) kq_H1.o (Nat.le_of_ble_eq_true rfl) ?_
    refine ks_iconst (n := 109) S dX4_count_108 rfl (by unfold iv; decide) ?_
    refine ks_ixor (n := 110) S dX4_count_109 rfl ?_
    refine ks_iand (n := 111) S dX4_count_110 rfl ?_
    refine ks_iret S dX4_count_111 ?_
    rw [s0]
    exact qc_a hC (by unfold A_count; refine congrArg (fun z => (z, M)) ?_; (repeat' split) <;> first | rfl | omega)
  · skip
    refine ks_aload_n (n := 113) S dX4_count_112 rfl rfl ?_
    refine ks_getI (n := 116) (fi := 7) S dX4_count_113 rfl fl_X4_44 rfl rfl rfl ?_
    refine ks_iret S dX4_count_116 ?_
    exact qc_a hC (by unfold A_count; refine congrArg (fun z => (z, M)) ?_; (repeat' split) <;> first | rfl | omega)
  · skip
    refine ks_aload_n (n := 118) S dX4_count_117 rfl rfl ?_
    refine ks_getr (n := 121) S dX4_count_118 rfl fl_X4_29 rfl rfl ?_
    refine ks_getI (n := 124) (fi := 1) S dX4_count_121 rfl fl_X4_55 rfl rfl rfl ?_
    refine ks_iret S dX4_count_124 ?_
    exact qc_a hC (by unfold A_count; refine congrArg (fun z => (z, M)) ?_; (repeat' split) <;> first | rfl | omega)
theorem pr_count {w : Int} (hM : OkM M) (hR : RR σ M) : Ev l yX5_count cX5_count 2 (some .int) 2 44 [kr 38, ki w] σ (QR (A_count M w) σ) := by
  have e39 : σ 39 = M 39 := hR.1
  have ok : OkR (σ 39) := by rw [e39]; exact hM.1
  have n9 := ok.1
  have n6 := ok.2.1
  refine ev_intro ym_X5_count.1 (Nat.le_of_ble_eq_true rfl) (fun hv hσ K S => ?_)
  have hv := hv
  show K 0 [some (kr 38), some (ki w)] [] σ
  refine ks_iload_n (n := 1) S dX5_count_0 rfl rfl ?_
  refine ks_bipush (n := 3) S dX5_count_1 rfl (by unfold iv; decide) ?_
  refine ks_bipush (n := 5) S dX5_count_3 rfl (by unfold iv; decide) ?_
  refine kf_s3z (n := 8) S dX5_count_5 rfl ml_X5_44 ym_X5_isIn (ev_X5_isIn) (by decide) (Nat.le_of_ble_eq_true rfl) ?_
  have hw := vk_1 hv
  have r9 : σ 38 9 = M 38 9 := hR.2.2.2.2.1
  have r8 : σ 38 8 = M 38 8 := hR.2.2.2.1
  have hsh := ib_shl_b n9
  refine ks_if_eq (n := 11) (tgt := 21) S dX5_count_8 rfl rfl (fun h8 => ?_) (fun h8 => ?_)
  · skip
    simp only [bi_eq, bi_ne, Classical.not_not] at h8
    refine ks_iload_n (n := 22) S dX5_count_21 rfl rfl ?_
    refine ks_table S (tdf := 121) [68, 68, 68, 75, 83, 91, 111, 116] dX5_count_22 (by decide) (by decide) rfl (fun h22 => ?_) (And.intro (fun h22 => ?_) (And.intro (fun h22 => ?_) (And.intro (fun h22 => ?_) (And.intro (fun h22 => ?_) (And.intro (fun h22 => ?_) (And.intro (fun h22 => ?_) (And.intro (fun h22 => ?_) (And.intro (fun h22 => ?_) trivial))))))))
    · skip
      refine ks_bipush (n := 123) S dX5_count_121 rfl (by unfold iv; decide) ?_
      refine ks_iret S dX5_count_123 ?_
      exact qr_a hR (by unfold A_count; refine congrArg (fun z => (z, M)) ?_; (try simp only [← e39]); (repeat' split) <;> first | rfl | omega)
    · skip
      refine ks_aload_n (n := 69) S dX5_count_68 rfl rfl ?_
      refine ks_getr (n := 72) S dX5_count_69 rfl fl_X5_9 rfl rfl ?_
      refine ks_iload_n (n := 73) S dX5_count_72 rfl rfl ?_
      refine ks_iaload (n := 74) S dX5_count_73 rfl rfl (by omega) ?_
      refine ks_iret S dX5_count_74 ?_
      exact qr_a hR (by unfold A_count; refine congrArg (fun z => (z, M)) ?_; simp only [← e39]; (repeat' split) <;> first | (subst w; rfl) | omega)
    · skip
      refine ks_aload_n (n := 69) S dX5_count_68 rfl rfl ?_
      refine ks_getr (n := 72) S dX5_count_69 rfl fl_X5_9 rfl rfl ?_
      refine ks_iload_n (n := 73) S dX5_count_72 rfl rfl ?_
      refine ks_iaload (n := 74) S dX5_count_73 rfl rfl (by omega) ?_
      refine ks_iret S dX5_count_74 ?_
      exact qr_a hR (by unfold A_count; refine congrArg (fun z => (z, M)) ?_; simp only [← e39]; (repeat' split) <;> first | (subst w; rfl) | omega)
    · skip
      refine ks_aload_n (n := 69) S dX5_count_68 rfl rfl ?_
      refine ks_getr (n := 72) S dX5_count_69 rfl fl_X5_9 rfl rfl ?_
      refine ks_iload_n (n := 73) S dX5_count_72 rfl rfl ?_
      refine ks_iaload (n := 74) S dX5_count_73 rfl rfl (by omega) ?_
      refine ks_iret S dX5_count_74 ?_
      exact qr_a hR (by unfold A_count; refine congrArg (fun z => (z, M)) ?_; simp only [← e39]; (repeat' split) <;> first | (subst w; rfl) | omega)
    · skip
      refine ks_aload_n (n := 76) S dX5_count_75 rfl rfl ?_
      refine ks_getr (n := 79) S dX5_count_76 rfl fl_X5_9 rfl rfl ?_
      refine kf_s1i (n := 82) S dX5_count_79 rfl ml_X5_148 ym_X5_allHeat (ev_X5_allHeat rfl ok) (by decide) (Nat.le_of_ble_eq_true rfl) ?_
      refine ks_iret S dX5_count_82 ?_
      exact qr_a hR (by unfold A_count; refine congrArg (fun z => (z, M)) ?_; (try simp only [← e39]); (repeat' split) <;> first | rfl | omega)
    · skip
      refine ks_aload_n (n := 84) S dX5_count_83 rfl rfl ?_
      refine ks_getr (n := 87) S dX5_count_84 rfl fl_X5_9 rfl rfl ?_
      refine kf_s1i (n := 90) S dX5_count_87 rfl ml_X5_244 ym_X5_allMoods (ev_X5_allMoods rfl ok) (by decide) (Nat.le_of_ble_eq_true rfl) ?_
      refine ks_iret S dX5_count_90 ?_
      exact qr_a hR (by unfold A_count; refine congrArg (fun z => (z, M)) ?_; (try simp only [← e39]); (repeat' split) <;> first | rfl | omega)
    · skip
      refine ks_iconst (n := 92) S dX5_count_91 rfl (by unfold iv; decide) ?_
      refine ks_aload_n (n := 93) S dX5_count_92 rfl rfl ?_
      refine ks_getr (n := 96) S dX5_count_93 rfl fl_X5_9 rfl rfl ?_
      refine ks_iconst (n := 97) S dX5_count_96 rfl (by unfold iv; decide) ?_
      refine ks_iaload (n := 98) S dX5_count_97 rfl rfl (by omega) ?_
      refine ks_ishl (n := 99) S dX5_count_98 rfl ?_
      refine ks_iconst (n := 100) S dX5_count_99 rfl (by unfold iv; decide) ?_
      refine ks_isub (n := 101) S dX5_count_100 rfl (by omega) ?_
      refine ks_aload_n (n := 102) S dX5_count_101 rfl rfl ?_
      refine ks_bipush (n := 104) S dX5_count_102 rfl (by unfold iv; decide) ?_
      refine kf_v1i (n := 107) S dX5_count_104 rfl ml_X5_204 ym_X5_withVoice (ev_X5_withVoice ok) (by decide) rfl (Nat.le_of_ble_eq_true rfl) ?_
      refine ks_iconst (n := 108) S dX5_count_107 rfl (by unfold iv; decide) ?_
      refine ks_ixor (n := 109) S dX5_count_108 rfl ?_
      refine ks_iand (n := 110) S dX5_count_109 rfl ?_
      refine ks_iret S dX5_count_110 ?_
      exact qr_a hR (by unfold A_count; refine congrArg (fun z => (z, M)) ?_; (try simp only [← e39]); (repeat' split) <;> first | rfl | omega)
    · skip
      refine ks_aload_n (n := 112) S dX5_count_111 rfl rfl ?_
      refine ks_getI (n := 115) (fi := 9) S dX5_count_112 rfl fl_X5_188 rfl rfl rfl ?_
      refine ks_iret S dX5_count_115 ?_
      exact qr_a hR (by unfold A_count; refine congrArg (fun z => (z, M)) ?_; (try simp only [← e39]); (repeat' split) <;> first | rfl | omega)
    · skip
      refine ks_aload_n (n := 117) S dX5_count_116 rfl rfl ?_
      refine ks_getI (n := 120) (fi := 8) S dX5_count_117 rfl fl_X5_87 rfl rfl rfl ?_
      refine ks_iret S dX5_count_120 ?_
      exact qr_a hR (by unfold A_count; refine congrArg (fun z => (z, M)) ?_; (try simp only [← e39]); (repeat' split) <;> first | rfl | omega)
  · skip
    simp only [bi_eq, bi_ne, Classical.not_not] at h8
    refine ks_aload_n (n := 12) S dX5_count_11 rfl rfl ?_
    refine ks_getr (n := 15) S dX5_count_12 rfl fl_X5_28 rfl rfl ?_
    refine ks_iload_n (n := 16) S dX5_count_15 rfl rfl ?_
    refine ks_bipush (n := 18) S dX5_count_16 rfl (by unfold iv; decide) ?_
    refine ks_isub (n := 19) S dX5_count_18 rfl (by omega) ?_
    refine ks_iaload (n := 20) S dX5_count_19 rfl rfl (by omega) ?_
    refine ks_iret S dX5_count_20 ?_
    exact qr_a hR (by unfold A_count; rw [if_pos h8, hR.2.2.2.2.2.2.2.1])
def m_mh (g : Int → Int) : Nat → Int × Int
  | 0 => (-9, 0)
  | n + 1 => if (m_mh g n).2 < g n then ((n : Int), g n) else m_mh g n
theorem m_mh_s {g : Int → Int} {i : Int} (h : 0 ≤ i) : m_mh g (i + 1).toNat = if (m_mh g i.toNat).2 < g i then (i, g i) else m_mh g i.toNat := by
  obtain ⟨n, rfl⟩ := Int.eq_ofNat_of_zero_le h
  rfl
def m_bw (x : Int) : Nat → Int
  | 0 => 0
  | n + 1 => wr (m_bw x n + ib_and (ib_shr x n) 1)
theorem m_bw_s {x i : Int} (h : 0 ≤ i) : m_bw x (i + 1).toNat = wr (m_bw x i.toNat + ib_and (ib_shr x i) 1) := by
  obtain ⟨n, rfl⟩ := Int.eq_ofNat_of_zero_le h
  rfl
def m_b1 (x : Int) : Int := wr (x - ib_and (ib_ushr x 1) 1431655765)
def m_b2 (x : Int) : Int := wr (ib_and x 858993459 + ib_and (ib_ushr x 2) 858993459)
def m_b3 (x : Int) : Int := ib_and (wr (x + ib_ushr x 4)) 252645135
def m_b4 (x : Int) : Int := wr (x + ib_ushr x 8)
def m_b5 (x : Int) : Int := wr (x + ib_ushr x 16)
def m_bc (x : Int) : Int := ib_and (m_b5 (m_b4 (m_b3 (m_b2 (m_b1 x))))) 63
theorem m_bc_bw {x : Int} (h : 0 ≤ x ∧ x < 512) : m_bc x = m_bw x 9 := by
  have key : ∀ k : Fin 512, m_bc ((k : Nat) : Int) = m_bw ((k : Nat) : Int) 9 := by decide +kernel
  have := key ⟨x.toNat, by omega⟩
  rw [show (((⟨x.toNat, by omega⟩ : Fin 512) : Nat) : Int) = x by show ((x.toNat : Nat) : Int) = x; omega] at this
  exact this
theorem ib_or_b : ∀ n : Fin 9, ∀ x : Fin 256, (x : Nat) < 2 ^ (n : Nat) → 0 ≤ ib_or ((x : Nat) : Int) (ib_shl 1 ((n : Nat) : Int)) ∧ ib_or ((x : Nat) : Int) (ib_shl 1 ((n : Nat) : Int)) < 2 ^ ((n : Nat) + 1) := by decide +kernel
theorem m_vo_b {a : RW} {w : Int} : ∀ n : Nat, n ≤ 9 → 0 ≤ m_vo a w n ∧ m_vo a w n < 2 ^ n := by
  intro n
  induction n with
  | zero => intro _; exact ⟨Int.le_refl 0, by show (0 : Int) < 1; omega⟩
  | succ n ih =>
    intro hn
    obtain ⟨i1, i2⟩ := ih (by omega)
    have hp : (2 : Int) ^ n ≤ 256 := by
      have : ∀ k : Fin 9, (2 : Int) ^ (k : Nat) ≤ 256 := by decide +kernel
      exact this ⟨n, by omega⟩
    unfold m_vo
    split
    · have := ib_or_b ⟨n, by omega⟩ ⟨(m_vo a w n).toNat, by omega⟩ (by
        show (m_vo a w n).toNat < 2 ^ n
        have : ((m_vo a w n).toNat : Int) < ((2 ^ n : Nat) : Int) := by push_cast; omega
        exact_mod_cast this)
      rw [show (((⟨(m_vo a w n).toNat, by omega⟩ : Fin 256) : Nat) : Int) = m_vo a w n by show (((m_vo a w n).toNat : Nat) : Int) = _; omega] at this
      exact this
    · have : (2 : Int) ^ n ≤ 2 ^ (n + 1) := by rw [Int.pow_succ]; omega
      omega
theorem ev_J6_bitCount {x : Int} : Ev l yJ6_bitCount_0f7a4 cJ6_bitCount_0f7a4 1 (some .int) 0 0 [ki x] σ (Rt (some (ki (m_bc x))) σ) := by
  refine ev_intro ym_J6_bitCount_0f7a4.1 (Nat.le_of_ble_eq_true rfl) (fun hv hσ K S => ?_)
  have hv := hv
  show K 0 [some (ki x)] [] σ
  refine ks_iload_n (n := 1) S dJ6_bitCount_0f7a4_0 rfl rfl ?_
  refine ks_iload_n (n := 2) S dJ6_bitCount_0f7a4_1 rfl rfl ?_
  refine ks_iconst (n := 3) S dJ6_bitCount_0f7a4_2 rfl (by unfold iv; decide) ?_
  refine ks_iushr (n := 4) S dJ6_bitCount_0f7a4_3 rfl ?_
  refine ks_ldcw (n := 7) (x := 1431655765) S dJ6_bitCount_0f7a4_4 rfl ct_J6_265 (by unfold iv; decide +kernel) ?_
  refine ks_iand (n := 8) S dJ6_bitCount_0f7a4_7 rfl ?_
  refine ks_isubW (n := 9) S dJ6_bitCount_0f7a4_8 rfl ?_
  refine ks_istore_n (n := 10) S dJ6_bitCount_0f7a4_9 rfl rfl (L' := fun y => [some (ki y)]) (Nat.le_of_ble_eq_true rfl) (fun _ => rfl) (fun v0_9 hv9 => ?_)
  subst v0_9
  refine ks_iload_n (n := 11) S dJ6_bitCount_0f7a4_10 rfl rfl ?_
  refine ks_ldcw (n := 14) (x := 858993459) S dJ6_bitCount_0f7a4_11 rfl ct_J6_266 (by unfold iv; decide +kernel) ?_
  refine ks_iand (n := 15) S dJ6_bitCount_0f7a4_14 rfl ?_
  refine ks_iload_n (n := 16) S dJ6_bitCount_0f7a4_15 rfl rfl ?_
  refine ks_iconst (n := 17) S dJ6_bitCount_0f7a4_16 rfl (by unfold iv; decide) ?_
  refine ks_iushr (n := 18) S dJ6_bitCount_0f7a4_17 rfl ?_
  refine ks_ldcw (n := 21) (x := 858993459) S dJ6_bitCount_0f7a4_18 rfl ct_J6_266 (by unfold iv; decide +kernel) ?_
  refine ks_iand (n := 22) S dJ6_bitCount_0f7a4_21 rfl ?_
  refine ks_iaddW (n := 23) S dJ6_bitCount_0f7a4_22 rfl ?_
  refine ks_istore_n (n := 24) S dJ6_bitCount_0f7a4_23 rfl rfl (L' := fun y => [some (ki y)]) (Nat.le_of_ble_eq_true rfl) (fun _ => rfl) (fun v0_23 hv23 => ?_)
  subst v0_23
  refine ks_iload_n (n := 25) S dJ6_bitCount_0f7a4_24 rfl rfl ?_
  refine ks_iload_n (n := 26) S dJ6_bitCount_0f7a4_25 rfl rfl ?_
  refine ks_iconst (n := 27) S dJ6_bitCount_0f7a4_26 rfl (by unfold iv; decide) ?_
  refine ks_iushr (n := 28) S dJ6_bitCount_0f7a4_27 rfl ?_
  refine ks_iaddW (n := 29) S dJ6_bitCount_0f7a4_28 rfl ?_
  refine ks_ldcw (n := 32) (x := 252645135) S dJ6_bitCount_0f7a4_29 rfl ct_J6_267 (by unfold iv; decide +kernel) ?_
  refine ks_iand (n := 33) S dJ6_bitCount_0f7a4_32 rfl ?_
  refine ks_istore_n (n := 34) S dJ6_bitCount_0f7a4_33 rfl rfl (L' := fun y => [some (ki y)]) (Nat.le_of_ble_eq_true rfl) (fun _ => rfl) (fun v0_33 hv33 => ?_)
  subst v0_33
  refine ks_iload_n (n := 35) S dJ6_bitCount_0f7a4_34 rfl rfl ?_
  refine ks_iload_n (n := 36) S dJ6_bitCount_0f7a4_35 rfl rfl ?_
  refine ks_bipush (n := 38) S dJ6_bitCount_0f7a4_36 rfl (by unfold iv; decide) ?_
  refine ks_iushr (n := 39) S dJ6_bitCount_0f7a4_38 rfl ?_
  refine ks_iaddW (n := 40) S dJ6_bitCount_0f7a4_39 rfl ?_
  refine ks_istore_n (n := 41) S dJ6_bitCount_0f7a4_40 rfl rfl (L' := fun y => [some (ki y)]) (Nat.le_of_ble_eq_true rfl) (fun _ => rfl) (fun v0_40 hv40 => ?_)
  subst v0_40
  refine ks_iload_n (n := 42) S dJ6_bitCount_0f7a4_41 rfl rfl ?_
  refine ks_iload_n (n := 43) S dJ6_bitCount_0f7a4_42 rfl rfl ?_
  refine ks_bipush (n := 45) S dJ6_bitCount_0f7a4_43 rfl (by unfold iv; decide) ?_
  refine ks_iushr (n := 46) S dJ6_bitCount_0f7a4_45 rfl ?_
  refine ks_iaddW (n := 47) S dJ6_bitCount_0f7a4_46 rfl ?_
  refine ks_istore_n (n := 48) S dJ6_bitCount_0f7a4_47 rfl rfl (L' := fun y => [some (ki y)]) (Nat.le_of_ble_eq_true rfl) (fun _ => rfl) (fun v0_47 hv47 => ?_)
  subst v0_47
  refine ks_iload_n (n := 49) S dJ6_bitCount_0f7a4_48 rfl rfl ?_
  refine ks_bipush (n := 51) S dJ6_bitCount_0f7a4_49 rfl (by unfold iv; decide) ?_
  refine ks_iand (n := 52) S dJ6_bitCount_0f7a4_51 rfl ?_
  refine ks_iret S dJ6_bitCount_0f7a4_52 ?_
  exact rt_r
theorem ev_X5_bits {x : Int} : Ev l yX5_bits cX5_bits 3 (some .int) 0 0 [ki x] σ (Rt (some (ki (m_bw x 9))) σ) := by
  refine ev_intro ym_X5_bits.1 (Nat.le_of_ble_eq_true rfl) (fun hv hσ K S => ?_)
  have hv := hv
  show K 0 [some (ki x), none, none] [] σ
  refine kq_use (kq_for (α := Int) 9 (fun i s => 0 ≤ i ∧ s = m_bw x i.toNat) (fun i s => K 4 [some (ki x), some (ki s), some (ki i)] [] σ) ?_) (fun lp => ?_)
  · intro i s hi inv ih
    obtain ⟨i0, hs⟩ := inv
    refine ks_iload_n (n := 5) S dX5_bits_4 rfl rfl ?_
    refine ks_bipush (n := 7) S dX5_bits_5 rfl (by unfold iv; decide) ?_
    refine ks_icmp_ge (n := 10) (tgt := 24) S dX5_bits_7 rfl rfl (fun h7 => ?_) (fun h7 => ?_)
    · skip
      refine ks_iload_n (n := 25) S dX5_bits_24 rfl rfl ?_
      refine ks_iret S dX5_bits_25 ?_
      exact rt_e (by rw [hs, show i = 9 by omega]; rfl)
    · skip
      refine ks_iload_n (n := 11) S dX5_bits_10 rfl rfl ?_
      refine ks_iload_n (n := 12) S dX5_bits_11 rfl rfl ?_
      refine ks_iload_n (n := 13) S dX5_bits_12 rfl rfl ?_
      refine ks_ishr (n := 14) S dX5_bits_13 rfl ?_
      refine ks_iconst (n := 15) S dX5_bits_14 rfl (by unfold iv; decide) ?_
      refine ks_iand (n := 16) S dX5_bits_15 rfl ?_
      refine ks_iaddW (n := 17) S dX5_bits_16 rfl ?_
      refine ks_istore_n (n := 18) S dX5_bits_17 rfl rfl (L' := fun y => [some (ki x), some (ki y), some (ki i)]) (Nat.le_of_ble_eq_true rfl) (fun _ => rfl) (fun v1_17 hv17 => ?_)
      subst v1_17
      refine ks_iinc (n := 21) S dX5_bits_18 rfl rfl (by omega) (L' := fun y => [some (ki x), some (ki _), some (ki y)]) (fun _ => rfl) (fun v2_18 hv18 => ?_)
      subst v2_18
      refine ks_goto (n := 4) S dX5_bits_21 rfl ?_
      refine ih _ (by omega) ⟨by omega, ?_⟩
      rw [m_bw_s i0, ← hs]
  refine ks_iconst (n := 1) S dX5_bits_0 rfl (by unfold iv; decide) ?_
  refine ks_istore_n (n := 2) S dX5_bits_1 rfl rfl (L' := fun y => [some (ki x), some (ki y), none]) (Nat.le_of_ble_eq_true rfl) (fun _ => rfl) (fun v1_1 hv1 => ?_)
  obtain rfl : v1_1 = 0 := by omega
  refine ks_iconst (n := 3) S dX5_bits_2 rfl (by unfold iv; decide) ?_
  refine ks_istore_n (n := 4) S dX5_bits_3 rfl rfl (L' := fun y => [some (ki x), some (ki (0)), some (ki y)]) (Nat.le_of_ble_eq_true rfl) (fun _ => rfl) (fun v2_3 hv3 => ?_)
  obtain rfl : v2_3 = 0 := by omega
  exact lp 0 0 (by omega) ⟨by omega, rfl⟩
def m_hg (a : RW) (p : Int) : Int := m_bw (m_vo a p (a 0).toNat) 9
theorem ev_X4_mostHeard (hM : OkM M) (hC : RC σ M) : Ev l yX4_mostHeard cX4_mostHeard 5 (some .int) 1 23 [kr 0] σ (Rt (some (ki (m_mh (m_hg (M 39)) (M 39 1).toNat).1)) σ) := by
  have R := hC.1
  have ok := hM.1
  have n9 := ok.1
  have n6 := ok.2.1
  have s7 : σ 1 7 = M 39 1 := R.2.1
  generalize hgg : m_hg (M 39) = g
  refine ev_intro ym_X4_mostHeard.1 (Nat.le_of_ble_eq_true rfl) (fun hv hσ K S => ?_)
  have hv := hv
  show K 0 [some (kr 0), none, none, none, none] [] σ
  refine kq_use (kq_for (α := Int × Int) (M 39 1) (fun i s => 0 ≤ i ∧ s = m_mh g i.toNat) (fun i s => K 7 [some (kr 0), some (ki s.1), some (ki s.2), some (ki i), none] [] σ) ?_) (fun lp => ?_)
  · intro i s hi inv ih
    obtain ⟨b, t⟩ := s
    obtain ⟨i0, hs⟩ := inv
    dsimp only
    refine ks_iload_n (n := 8) S dX4_mostHeard_7 rfl rfl ?_
    refine ks_aload_n (n := 9) S dX4_mostHeard_8 rfl rfl ?_
    refine ks_getr (n := 12) S dX4_mostHeard_9 rfl fl_X4_10 rfl rfl ?_
    refine ks_getI (n := 15) (fi := 7) S dX4_mostHeard_12 rfl fl_X4_226 kq_H1.o rfl rfl ?_
    refine ks_icmp_ge (n := 18) (tgt := 48) S dX4_mostHeard_15 rfl rfl (fun h15 => ?_) (fun h15 => ?_)
    · skip
      refine ks_iload_n (n := 49) S dX4_mostHeard_48 rfl rfl ?_
      refine ks_iret S dX4_mostHeard_49 ?_
      exact rt_e (by rw [show M 39 1 = i by omega, ← hs])
    · skip
      have hb := m_vo_b (a := M 39) (w := i) (M 39 0).toNat (by omega)
      have hp : (2 : Int) ^ (M 39 0).toNat ≤ 512 := by
        have : ∀ k : Fin 10, (2 : Int) ^ (k : Nat) ≤ 512 := by decide +kernel
        exact this ⟨(M 39 0).toNat, by omega⟩
      have hbc : m_bc (m_vo (M 39) i (M 39 0).toNat) = g i := by rw [← hgg]; exact m_bc_bw (by omega)
      refine ks_aload_n (n := 19) S dX4_mostHeard_18 rfl rfl ?_
      refine ks_getr (n := 22) S dX4_mostHeard_19 rfl fl_X4_10 rfl rfl ?_
      refine ks_iload_n (n := 23) S dX4_mostHeard_22 rfl rfl ?_
      refine kf_v1i (n := 26) S dX4_mostHeard_23 rfl ml_X4_217 ym_X0_doorsOfVoice (ev_X0_doorsOfVoice kq_H1 R ok) (by decide) kq_H1.o (Nat.le_of_ble_eq_true rfl) ?_
      refine kf_s1i (n := 29) S dX4_mostHeard_26 rfl ml_X4_229 ym_J6_bitCount_0f7a4 (ev_J6_bitCount) (by decide) (Nat.le_of_ble_eq_true rfl) ?_
      rw [hbc]
      refine ks_istore (n := 31) S dX4_mostHeard_29 rfl (L' := fun y => [some (kr 0), some (ki b), some (ki t), some (ki i), some (ki y)]) (Nat.le_of_ble_eq_true rfl) (fun _ => rfl) (fun v4_29 hv29 => ?_)
      subst v4_29
      refine ks_iload (n := 33) S dX4_mostHeard_31 rfl rfl ?_
      refine ks_iload_n (n := 34) S dX4_mostHeard_33 rfl rfl ?_
      refine ks_icmp_le (n := 37) (tgt := 42) S dX4_mostHeard_34 rfl rfl (fun h34 => ?_) (fun h34 => ?_)
      · skip
        refine ks_iinc (n := 45) S dX4_mostHeard_42 rfl rfl (by omega) (L' := fun y => [some (kr 0), some (ki b), some (ki t), some (ki y), some (ki _)]) (fun _ => rfl) (fun v3_42 hv42 => ?_)
        subst v3_42
        refine ks_goto (n := 7) S dX4_mostHeard_45 rfl ?_
        refine ks_weak (L' := [some (kr 0), some (ki b), some (ki t), some (ki _), none]) S ((And.intro rfl (And.intro rfl (And.intro rfl (And.intro rfl True.intro))))) ?_
        first | (refine ih (b, t) (by omega) ⟨by omega, ?_⟩; rw [m_mh_s i0, ← hs, if_neg (by omega)]; done) | (refine ih (i, g i) (by omega) ⟨by omega, ?_⟩; rw [m_mh_s i0, ← hs, if_pos (by omega)]; done)
      · skip
        refine ks_iload (n := 39) S dX4_mostHeard_37 rfl rfl ?_
        refine ks_istore_n (n := 40) S dX4_mostHeard_39 rfl rfl (L' := fun y => [some (kr 0), some (ki b), some (ki y), some (ki i), some (ki _)]) (Nat.le_of_ble_eq_true rfl) (fun _ => rfl) (fun v2_39 hv39 => ?_)
        subst v2_39
        refine ks_iload_n (n := 41) S dX4_mostHeard_40 rfl rfl ?_
        refine ks_istore_n (n := 42) S dX4_mostHeard_41 rfl rfl (L' := fun y => [some (kr 0), some (ki y), some (ki _), some (ki i), some (ki _)]) (Nat.le_of_ble_eq_true rfl) (fun _ => rfl) (fun v1_41 hv41 => ?_)
        subst v1_41
        refine ks_iinc (n := 45) S dX4_mostHeard_42 rfl rfl (by omega) (L' := fun y => [some (kr 0), some (ki _), some (ki _), some (ki y), some (ki _)]) (fun _ => rfl) (fun v3_42 hv42 => ?_)
        subst v3_42
        refine ks_goto (n := 7) S dX4_mostHeard_45 rfl ?_
        refine ks_weak (L' := [some (kr 0), some (ki _), some (ki _), some (ki _), none]) S ((And.intro rfl (And.intro rfl (And.intro rfl (And.intro rfl True.intro))))) ?_
        first | (refine ih (b, t) (by omega) ⟨by omega, ?_⟩; rw [m_mh_s i0, ← hs, if_neg (by omega)]; done) | (refine ih (i, g i) (by omega) ⟨by omega, ?_⟩; rw [m_mh_s i0, ← hs, if_pos (by omega)]; done)
  refine ks_bipush (n := 2) S dX4_mostHeard_0 rfl (by unfold iv; decide) ?_
  refine ks_istore_n (n := 3) S dX4_mostHeard_2 rfl rfl (L' := fun y => [some (kr 0), some (ki y), none, none, none]) (Nat.le_of_ble_eq_true rfl) (fun _ => rfl) (fun v1_2 hv2 => ?_)
  obtain rfl : v1_2 = -9 := by omega
  refine ks_iconst (n := 4) S dX4_mostHeard_3 rfl (by unfold iv; decide) ?_
  refine ks_istore_n (n := 5) S dX4_mostHeard_4 rfl rfl (L' := fun y => [some (kr 0), some (ki (-9)), some (ki y), none, none]) (Nat.le_of_ble_eq_true rfl) (fun _ => rfl) (fun v2_4 hv4 => ?_)
  obtain rfl : v2_4 = 0 := by omega
  refine ks_iconst (n := 6) S dX4_mostHeard_5 rfl (by unfold iv; decide) ?_
  refine ks_istore_n (n := 7) S dX4_mostHeard_6 rfl rfl (L' := fun y => [some (kr 0), some (ki (-9)), some (ki (0)), some (ki y), none]) (Nat.le_of_ble_eq_true rfl) (fun _ => rfl) (fun v3_6 hv6 => ?_)
  obtain rfl : v3_6 = 0 := by omega
  exact lp 0 (-9, 0) n6.1 ⟨by omega, rfl⟩
theorem ev_X5_mostHeard (hM : OkM M) (hR : RR σ M) : Ev l yX5_mostHeard cX5_mostHeard 4 (some .int) 2 44 [kr 38] σ (Rt (some (ki (m_mh (m_hg (M 39)) (M 39 1).toNat).1)) σ) := by
  have e39 : σ 39 = M 39 := hR.1
  have ok := hM.1
  have n9 := ok.1
  have n6 := ok.2.1
  have s1 : σ 39 1 = M 39 1 := by rw [e39]
  have hg : ∀ i, m_bw (m_vo (σ 39) i (σ 39 0).toNat) 9 = m_hg (M 39) i := fun i => by rw [e39]; rfl
  generalize hgg : m_hg (M 39) = g at hg ⊢
  refine ev_intro ym_X5_mostHeard.1 (Nat.le_of_ble_eq_true rfl) (fun hv hσ K S => ?_)
  have hv := hv
  show K 0 [some (kr 38), none, none, none] [] σ
  refine kq_use (kq_for (α := Int × Int) (M 39 1) (fun i s => 0 ≤ i ∧ s = m_mh g i.toNat) (fun i s => K 7 [some (kr 38), some (ki s.1), some (ki s.2), some (ki i)] [] σ) ?_) (fun lp => ?_)
  · intro i s hi inv ih
    obtain ⟨b, t⟩ := s
    obtain ⟨i0, hs⟩ := inv
    dsimp only
    refine ks_iload_n (n := 8) S dX5_mostHeard_7 rfl rfl ?_
    refine ks_aload_n (n := 9) S dX5_mostHeard_8 rfl rfl ?_
    refine ks_getr (n := 12) S dX5_mostHeard_9 rfl fl_X5_9 rfl rfl ?_
    refine ks_iconst (n := 13) S dX5_mostHeard_12 rfl (by unfold iv; decide) ?_
    refine ks_iaload (n := 14) S dX5_mostHeard_13 rfl rfl (by omega) ?_
    refine ks_icmp_ge (n := 17) (tgt := 49) S dX5_mostHeard_14 rfl rfl (fun h14 => ?_) (fun h14 => ?_)
    · skip
      refine ks_iload_n (n := 50) S dX5_mostHeard_49 rfl rfl ?_
      refine ks_iret S dX5_mostHeard_50 ?_
      exact rt_e (by rw [show M 39 1 = i by omega, ← hs])
    · skip
      refine ks_aload_n (n := 18) S dX5_mostHeard_17 rfl rfl ?_
      refine ks_iload_n (n := 19) S dX5_mostHeard_18 rfl rfl ?_
      refine kf_v1i (n := 22) S dX5_mostHeard_19 rfl ml_X5_204 ym_X5_withVoice (ev_X5_withVoice (by rw [e39]; exact ok)) (by decide) rfl (Nat.le_of_ble_eq_true rfl) ?_
      refine kf_s1i (n := 25) S dX5_mostHeard_22 rfl ml_X5_207 ym_X5_bits (ev_X5_bits) (by decide) (Nat.le_of_ble_eq_true rfl) ?_
      rw [hg i]
      refine ks_iload_n (n := 26) S dX5_mostHeard_25 rfl rfl ?_
      refine ks_icmp_gt (n := 29) (tgt := 32) S dX5_mostHeard_26 rfl rfl (fun h26 => ?_) (fun h26 => ?_)
      · skip
        refine ks_iload_n (n := 33) S dX5_mostHeard_32 rfl rfl ?_
        refine ks_istore_n (n := 34) S dX5_mostHeard_33 rfl rfl (L' := fun y => [some (kr 38), some (ki y), some (ki t), some (ki i)]) (Nat.le_of_ble_eq_true rfl) (fun _ => rfl) (fun v1_33 hv33 => ?_)
        subst v1_33
        refine ks_aload_n (n := 35) S dX5_mostHeard_34 rfl rfl ?_
        refine ks_iload_n (n := 36) S dX5_mostHeard_35 rfl rfl ?_
        refine kf_v1i (n := 39) S dX5_mostHeard_36 rfl ml_X5_204 ym_X5_withVoice (ev_X5_withVoice (by rw [e39]; exact ok)) (by decide) rfl (Nat.le_of_ble_eq_true rfl) ?_
        refine kf_s1i (n := 42) S dX5_mostHeard_39 rfl ml_X5_207 ym_X5_bits (ev_X5_bits) (by decide) (Nat.le_of_ble_eq_true rfl) ?_
        rw [hg i]
        refine ks_istore_n (n := 43) S dX5_mostHeard_42 rfl rfl (L' := fun y => [some (kr 38), some (ki _), some (ki y), some (ki i)]) (Nat.le_of_ble_eq_true rfl) (fun _ => rfl) (fun v2_42 hv42 => ?_)
        subst v2_42
        refine ks_iinc (n := 46) S dX5_mostHeard_43 rfl rfl (by omega) (L' := fun y => [some (kr 38), some (ki _), some (ki _), some (ki y)]) (fun _ => rfl) (fun v3_43 hv43 => ?_)
        subst v3_43
        refine ks_goto (n := 7) S dX5_mostHeard_46 rfl ?_
        first | (refine ih (b, t) (by omega) ⟨by omega, ?_⟩; rw [m_mh_s i0, ← hs, if_neg (by omega)]; done) | (refine ih (i, g i) (by omega) ⟨by omega, ?_⟩; rw [m_mh_s i0, ← hs, if_pos (by omega)]; done)
      · skip
        refine ks_goto (n := 43) S dX5_mostHeard_29 rfl ?_
        refine ks_iinc (n := 46) S dX5_mostHeard_43 rfl rfl (by omega) (L' := fun y => [some (kr 38), some (ki b), some (ki t), some (ki y)]) (fun _ => rfl) (fun v3_43 hv43 => ?_)
        subst v3_43
        refine ks_goto (n := 7) S dX5_mostHeard_46 rfl ?_
        first | (refine ih (b, t) (by omega) ⟨by omega, ?_⟩; rw [m_mh_s i0, ← hs, if_neg (by omega)]; done) | (refine ih (i, g i) (by omega) ⟨by omega, ?_⟩; rw [m_mh_s i0, ← hs, if_pos (by omega)]; done)
  refine ks_bipush (n := 2) S dX5_mostHeard_0 rfl (by unfold iv; decide) ?_
  refine ks_istore_n (n := 3) S dX5_mostHeard_2 rfl rfl (L' := fun y => [some (kr 38), some (ki y), none, none]) (Nat.le_of_ble_eq_true rfl) (fun _ => rfl) (fun v1_2 hv2 => ?_)
  obtain rfl : v1_2 = -9 := by omega
  refine ks_iconst (n := 4) S dX5_mostHeard_3 rfl (by unfold iv; decide) ?_
  refine ks_istore_n (n := 5) S dX5_mostHeard_4 rfl rfl (L' := fun y => [some (kr 38), some (ki (-9)), some (ki y), none]) (Nat.le_of_ble_eq_true rfl) (fun _ => rfl) (fun v2_4 hv4 => ?_)
  obtain rfl : v2_4 = 0 := by omega
  refine ks_iconst (n := 6) S dX5_mostHeard_5 rfl (by unfold iv; decide) ?_
  refine ks_istore_n (n := 7) S dX5_mostHeard_6 rfl rfl (L' := fun y => [some (kr 38), some (ki (-9)), some (ki (0)), some (ki y)]) (Nat.le_of_ble_eq_true rfl) (fun _ => rfl) (fun v3_6 hv6 => ?_)
  obtain rfl : v3_6 = 0 := by omega
  exact lp 0 (-9, 0) n6.1 ⟨by omega, rfl⟩
def A_heard (M : KS) (w : Int) : Int × KS := if w = 0 then ((m_mh (m_hg (M 39)) (M 39 1).toNat).1, M) else if w = 1 then (m_am (fun d => aP (M 39) d 2) (M 39 1).toNat, M) else (-2, rfM M (-2))
theorem pc_heard {w : Int} (hM : OkM M) (hC : RC σ M) : Ev l yX4_heard cX4_heard 2 (some .int) 2 47 [kr 0, ki w] σ (QC (A_heard M w) σ) := by
  have R := hC.1
  have ok := hM.1
  have n9 := ok.1
  have n6 := ok.2.1
  refine ev_intro ym_X4_heard.1 (Nat.le_of_ble_eq_true rfl) (fun hv hσ K S => ?_)
  have hv := hv
  show K 0 [some (kr 0), some (ki w)] [] σ
  refine ks_iload_n (n := 1) S dX4_heard_0 rfl rfl ?_
  refine ks_lookup S (tdf := 38) [(0, 28), (1, 33)] dX4_heard_1 (by decide) (by decide) rfl (And.intro (fun h1 => ?_) (fun h1_0 => (And.intro (fun h1 => ?_) (fun h1_1 => ?_))))
  · skip
    refine ks_aload_n (n := 29) S dX4_heard_28 rfl rfl ?_
    refine kf_v0i (n := 32) S dX4_heard_29 rfl ml_X4_220 ym_X4_mostHeard (ev_X4_mostHeard hM hC) (by decide) rfl (Nat.le_of_ble_eq_true rfl) ?_
    refine ks_iret S dX4_heard_32 ?_
    first | exact qc_r hC (by omega) (by unfold A_heard; (repeat' split) <;> first | rfl | omega | (congr 1; omega)) | exact qc_a hC (by unfold A_heard; (repeat' split) <;> first | rfl | omega | (congr 1; omega))
  · skip
    refine ks_aload_n (n := 34) S dX4_heard_33 rfl rfl ?_
    refine kf_v0i (n := 37) S dX4_heard_34 rfl ml_X4_223 ym_X4_worst (ev_X4_worst hM hC) (by decide) rfl (Nat.le_of_ble_eq_true rfl) ?_
    refine ks_iret S dX4_heard_37 ?_
    first | exact qc_r hC (by omega) (by unfold A_heard; (repeat' split) <;> first | rfl | omega | (congr 1; omega)) | exact qc_a hC (by unfold A_heard; (repeat' split) <;> first | rfl | omega | (congr 1; omega))
  · skip
    refine ks_aload_n (n := 39) S dX4_heard_38 rfl rfl ?_
    refine ks_bipush (n := 41) S dX4_heard_39 rfl (by unfold iv; decide) ?_
    refine kf_v1i (n := 44) S dX4_heard_41 rfl ml_X4_51 ym_X4_refuse (ev_X4_refuse (by omega)) (by decide) rfl (Nat.le_of_ble_eq_true rfl) ?_
    refine ks_iret S dX4_heard_44 ?_
    first | exact qc_r hC (by omega) (by unfold A_heard; (repeat' split) <;> first | rfl | omega | (congr 1; omega)) | exact qc_a hC (by unfold A_heard; (repeat' split) <;> first | rfl | omega | (congr 1; omega))
theorem pr_heard {w : Int} (hM : OkM M) (hR : RR σ M) : Ev l yX5_heard cX5_heard 2 (some .int) 3 67 [kr 38, ki w] σ (QR (A_heard M w) σ) := by
  have e39 : σ 39 = M 39 := hR.1
  have ok : OkR (σ 39) := by rw [e39]; exact hM.1
  have n9 := ok.1
  have n6 := ok.2.1
  refine ev_intro ym_X5_heard.1 (Nat.le_of_ble_eq_true rfl) (fun hv hσ K S => ?_)
  have hv := hv
  show K 0 [some (kr 38), some (ki w)] [] σ
  refine ks_iload_n (n := 1) S dX5_heard_0 rfl rfl ?_
  refine ks_if_ne (n := 4) (tgt := 11) S dX5_heard_1 rfl rfl (fun h1 => ?_) (fun h1 => ?_)
  · skip
    refine ks_iload_n (n := 12) S dX5_heard_11 rfl rfl ?_
    refine ks_iconst (n := 13) S dX5_heard_12 rfl (by unfold iv; decide) ?_
    refine ks_icmp_ne (n := 16) (tgt := 23) S dX5_heard_13 rfl rfl (fun h13 => ?_) (fun h13 => ?_)
    · skip
      refine ks_aload_n (n := 24) S dX5_heard_23 rfl rfl ?_
      refine ks_bipush (n := 26) S dX5_heard_24 rfl (by unfold iv; decide) ?_
      refine kf_v1i (n := 29) S dX5_heard_26 rfl ml_X5_38 ym_X5_no (ev_X5_no (by omega)) (by decide) rfl (Nat.le_of_ble_eq_true rfl) ?_
      refine ks_iret S dX5_heard_29 ?_
      first | exact qr_r hR (by unfold A_heard; (repeat' split) <;> first | rfl | omega) | exact qr_a hR (by unfold A_heard; (repeat' split) <;> first | rfl | omega)
    · skip
      refine ks_aload_n (n := 17) S dX5_heard_16 rfl rfl ?_
      refine kf_v0i (n := 20) S dX5_heard_17 rfl ml_X5_213 ym_X5_worst (ev_X5_worst hM hR) (by decide) rfl (Nat.le_of_ble_eq_true rfl) ?_
      refine ks_goto (n := 29) S dX5_heard_20 rfl ?_
      refine ks_iret S dX5_heard_29 ?_
      first | exact qr_r hR (by unfold A_heard; (repeat' split) <;> first | rfl | omega) | exact qr_a hR (by unfold A_heard; (repeat' split) <;> first | rfl | omega)
  · skip
    refine ks_aload_n (n := 5) S dX5_heard_4 rfl rfl ?_
    refine kf_v0i (n := 8) S dX5_heard_5 rfl ml_X5_210 ym_X5_mostHeard (ev_X5_mostHeard hM hR) (by decide) rfl (Nat.le_of_ble_eq_true rfl) ?_
    refine ks_goto (n := 29) S dX5_heard_8 rfl ?_
    refine ks_iret S dX5_heard_29 ?_
    first | exact qr_r hR (by unfold A_heard; (repeat' split) <;> first | rfl | omega) | exact qr_a hR (by unfold A_heard; (repeat' split) <;> first | rfl | omega)
end PUB8

