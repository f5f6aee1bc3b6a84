section TELL5
variable {l : Launch} {σ : KS} {w a : RW} {n : Int} {c : Nat}
theorem ev_X2_isFilled {d v p : Int} (hH : kq_H c) (hR : RepH σ c a) (ok : OkR a) (hv : 0 ≤ v ∧ v ≤ 99) : Ev l yX2_isFilled cX2_isFilled 4 (some .boolean) 1 23 [kr c, ki d, ki v, ki p] σ (fun r τ => r = some (ki (bi ((0 ≤ d ∧ d < a 0) ∧ (0 ≤ p ∧ p < a 1)))) ∧ RepH τ c (if (0 ≤ d ∧ d < a 0) ∧ (0 ≤ p ∧ p < a 1) then m_heats a d v p else a) ∧ FrH c σ τ) := by
  have n9 := ok.1
  have hv9 := hv
  refine ev_intro ym_X2_isFilled.1 (Nat.le_of_ble_eq_true rfl) (fun hv hσ K S => ?_)
  have hv := hv
  show K 0 [some (kr c), some (ki d), some (ki v), some (ki p)] [] σ
  refine ks_aload_n (n := 1) S dX2_isFilled_0 rfl rfl ?_
  refine ks_iload_n (n := 2) S dX2_isFilled_1 rfl rfl ?_
  refine kf_v1z (n := 5) S dX2_isFilled_2 rfl ml_X2_76 ym_X0_hasDoor (ev_X0_hasDoor hH hR) (by decide) hH.o (Nat.le_of_ble_eq_true rfl) ?_
  refine ks_if_eq (n := 8) (tgt := 16) S dX2_isFilled_5 rfl rfl (fun h5 => ?_) (fun h5 => ?_)
  · skip
    simp only [bi_eq, bi_ne, Classical.not_not] at h5
    refine ks_iconst (n := 17) S dX2_isFilled_16 rfl (by unfold iv; decide) ?_
    refine ks_zret S dX2_isFilled_17 (by first | exact Or.inl rfl | exact Or.inr rfl | exact bi_01) ?_
    refine ⟨by rw [bi_f (by omega)], ?_, FrH.rf⟩
    rw [if_neg (by omega)]; exact hR
  · skip
    simp only [bi_eq, bi_ne, Classical.not_not] at h5
    refine ks_aload_n (n := 9) S dX2_isFilled_8 rfl rfl ?_
    refine ks_iload_n (n := 10) S dX2_isFilled_9 rfl rfl ?_
    refine kf_v1z (n := 13) S dX2_isFilled_10 rfl ml_X2_73 ym_X0_hasPerson (ev_X0_hasPerson hH hR) (by decide) hH.o (Nat.le_of_ble_eq_true rfl) ?_
    refine ks_if_ne (n := 16) (tgt := 18) S dX2_isFilled_13 rfl rfl (fun h13 => ?_) (fun h13 => ?_)
    · skip
      simp only [bi_eq, bi_ne, Classical.not_not] at h13
      refine ks_aload_n (n := 19) S dX2_isFilled_18 rfl rfl ?_
      refine ks_iload_n (n := 20) S dX2_isFilled_19 rfl rfl ?_
      refine ks_iload_n (n := 21) S dX2_isFilled_20 rfl rfl ?_
      refine ks_iload_n (n := 22) S dX2_isFilled_21 rfl rfl ?_
      refine kf_v3v (n := 25) S dX2_isFilled_22 rfl ml_X2_86 ym_X0_fill (ev_X0_fill hH (by omega)) (by decide) hH.o (Nat.le_of_ble_eq_true rfl) ?_
      refine ks_iconst (n := 26) S dX2_isFilled_25 rfl (by unfold iv; decide) ?_
      refine ks_zret S dX2_isFilled_26 (by first | exact Or.inl rfl | exact Or.inr rfl | exact bi_01) ?_
      refine ⟨by rw [bi_t (by omega)], ?_, fill_F⟩
      rw [if_pos (show (0 ≤ d ∧ d < a 0) ∧ (0 ≤ p ∧ p < a 1) by omega)]; exact fill_H hR (by omega) hv9
    · skip
      simp only [bi_eq, bi_ne, Classical.not_not] at h13
      refine ks_iconst (n := 17) S dX2_isFilled_16 rfl (by unfold iv; decide) ?_
      refine ks_zret S dX2_isFilled_17 (by first | exact Or.inl rfl | exact Or.inr rfl | exact bi_01) ?_
      refine ⟨by rw [bi_f (by omega)], ?_, FrH.rf⟩
      rw [if_neg (by omega)]; exact hR
theorem ev_X2_isAired {d : Int} (hH : kq_H c) (hR : RepH σ c a) (ok : OkR a) : Ev l yX2_isAired cX2_isAired 2 (some .boolean) 1 23 [kr c, ki d] σ (fun r τ => r = some (ki (bi (0 ≤ d ∧ d < a 0))) ∧ RepH τ c (if 0 ≤ d ∧ d < a 0 then m_heats a d 0 9 else a) ∧ FrH c σ τ) := by
  have n9 := ok.1
  refine ev_intro ym_X2_isAired.1 (Nat.le_of_ble_eq_true rfl) (fun hv hσ K S => ?_)
  have hv := hv
  show K 0 [some (kr c), some (ki d)] [] σ
  refine ks_aload_n (n := 1) S dX2_isAired_0 rfl rfl ?_
  refine ks_iload_n (n := 2) S dX2_isAired_1 rfl rfl ?_
  refine kf_v1z (n := 5) S dX2_isAired_2 rfl ml_X2_76 ym_X0_hasDoor (ev_X0_hasDoor hH hR) (by decide) hH.o (Nat.le_of_ble_eq_true rfl) ?_
  refine ks_if_ne (n := 8) (tgt := 10) S dX2_isAired_5 rfl rfl (fun h5 => ?_) (fun h5 => ?_)
  · skip
    simp only [bi_eq, bi_ne, Classical.not_not] at h5
    refine ks_aload_n (n := 11) S dX2_isAired_10 rfl rfl ?_
    refine ks_iload_n (n := 12) S dX2_isAired_11 rfl rfl ?_
    refine ks_iconst (n := 13) S dX2_isAired_12 rfl (by unfold iv; decide) ?_
    refine ks_bipush (n := 15) S dX2_isAired_13 rfl (by unfold iv; decide) ?_
    refine kf_v3v (n := 18) S dX2_isAired_15 rfl ml_X2_86 ym_X0_fill (ev_X0_fill hH (by omega)) (by decide) hH.o (Nat.le_of_ble_eq_true rfl) ?_
    refine ks_iconst (n := 19) S dX2_isAired_18 rfl (by unfold iv; decide) ?_
    refine ks_zret S dX2_isAired_19 (by first | exact Or.inl rfl | exact Or.inr rfl | exact bi_01) ?_
    refine ⟨by rw [bi_t (by omega)], ?_, fill_F⟩
    rw [if_pos (show 0 ≤ d ∧ d < a 0 by omega)]; exact fill_H (d := d) (v := 0) (p := 9) hR (by omega) (by omega)
  · skip
    simp only [bi_eq, bi_ne, Classical.not_not] at h5
    refine ks_iconst (n := 9) S dX2_isAired_8 rfl (by unfold iv; decide) ?_
    refine ks_zret S dX2_isAired_9 (by first | exact Or.inl rfl | exact Or.inr rfl | exact bi_01) ?_
    refine ⟨by rw [bi_f (by omega)], ?_, FrH.rf⟩
    rw [if_neg (by omega)]; exact hR
theorem ev_X2_goBy {m : Int} (hH : kq_H c) (hR : RepH σ c a) (ok : OkR a) (hm : 0 ≤ m ∧ m ≤ 99) (h2 : a 2 ≤ 999) : Ev l yX2_goBy cX2_goBy 2 (some .boolean) 3 66 [kr c, ki m] σ (fun r τ => r = some (ki (bi (1 ≤ m ∧ m ≤ 60 ∧ a 2 + m ≤ 999))) ∧ RepH τ c (if 1 ≤ m ∧ m ≤ 60 ∧ a 2 + m ≤ 999 then m_hours a m.toNat else a) ∧ FrH c σ τ) := by
  have s2 := hR.2.2.1
  have o2 := ok.2.2.1
  refine ev_intro ym_X2_goBy.1 (Nat.le_of_ble_eq_true rfl) (fun hv hσ K S => ?_)
  have hv := hv
  show K 0 [some (kr c), some (ki m)] [] σ
  refine ks_iload_n (n := 1) S dX2_goBy_0 rfl rfl ?_
  refine ks_iconst (n := 2) S dX2_goBy_1 rfl (by unfold iv; decide) ?_
  refine ks_icmp_lt (n := 5) (tgt := 23) S dX2_goBy_2 rfl rfl (fun h2 => ?_) (fun h2 => ?_)
  · skip
    refine ks_iconst (n := 24) S dX2_goBy_23 rfl (by unfold iv; decide) ?_
    refine ks_zret S dX2_goBy_24 (by first | exact Or.inl rfl | exact Or.inr rfl | exact bi_01) ?_
    refine ⟨by rw [bi_f (by omega)], ?_, FrH.rf⟩
    rw [if_neg (by omega)]; exact hR
  · skip
    refine ks_iload_n (n := 6) S dX2_goBy_5 rfl rfl ?_
    refine ks_bipush (n := 8) S dX2_goBy_6 rfl (by unfold iv; decide) ?_
    refine ks_icmp_gt (n := 11) (tgt := 23) S dX2_goBy_8 rfl rfl (fun h8 => ?_) (fun h8 => ?_)
    · skip
      refine ks_iconst (n := 24) S dX2_goBy_23 rfl (by unfold iv; decide) ?_
      refine ks_zret S dX2_goBy_24 (by first | exact Or.inl rfl | exact Or.inr rfl | exact bi_01) ?_
      refine ⟨by rw [bi_f (by omega)], ?_, FrH.rf⟩
      rw [if_neg (by omega)]; exact hR
    · skip
      refine ks_aload_n (n := 12) S dX2_goBy_11 rfl rfl ?_
      refine ks_getI (n := 15) (fi := 11) S dX2_goBy_12 rfl fl_X2_90 hH.o rfl rfl ?_
      refine ks_iload_n (n := 16) S dX2_goBy_15 rfl rfl ?_
      refine ks_iadd (n := 17) S dX2_goBy_16 rfl (by omega) ?_
      refine ks_sipush (n := 20) S dX2_goBy_17 rfl (by unfold iv; decide) ?_
      refine ks_icmp_le (n := 23) (tgt := 25) S dX2_goBy_20 rfl rfl (fun h20 => ?_) (fun h20 => ?_)
      · skip
        have hps := (m_hours_pass ok m.toNat (by omega)).1
        rw [Int.toNat_of_nonneg (by omega)] at hps
        refine ks_aload_n (n := 26) S dX2_goBy_25 rfl rfl ?_
        refine ks_iload_n (n := 27) S dX2_goBy_26 rfl rfl ?_
        refine ks_v1v (n := 30) S dX2_goBy_27 rfl ml_X2_93 ym_X0_pass (ev_X0_pass hH hR ok (by omega) hps) (by decide) hH.o (Nat.le_of_ble_eq_true rfl) (fun τ27 q27 => ?_)
        obtain ⟨-, R2, F2⟩ := q27
        refine ks_iconst (n := 31) S dX2_goBy_30 rfl (by unfold iv; decide) ?_
        refine ks_zret S dX2_goBy_31 (by first | exact Or.inl rfl | exact Or.inr rfl | exact bi_01) ?_
        refine ⟨by rw [bi_t (by omega)], ?_, F2⟩
        rw [if_pos (by omega)]; exact R2
      · skip
        refine ks_iconst (n := 24) S dX2_goBy_23 rfl (by unfold iv; decide) ?_
        refine ks_zret S dX2_goBy_24 (by first | exact Or.inl rfl | exact Or.inr rfl | exact bi_01) ?_
        refine ⟨by rw [bi_f (by omega)], ?_, FrH.rf⟩
        rw [if_neg (by omega)]; exact hR
end TELL5

