section TELL4
variable {l : Launch} {σ : KS} {w a : RW} {n : Int} {c : Nat}
theorem ev_X2_isOpened {p d : Int} (hH : kq_H c) (hR : RepH σ c a) (ok : OkR a) : Ev l yX2_isOpened cX2_isOpened 3 (some .boolean) 3 66 [kr c, ki p, ki d] σ (fun r τ => r = some (ki (bi ((0 ≤ p ∧ p < a 1) ∧ (0 ≤ d ∧ d < a 0) ∧ m_of a d (aP a p 1)))) ∧ RepH τ c (if (0 ≤ p ∧ p < a 1) ∧ (0 ≤ d ∧ d < a 0) ∧ m_of a d (aP a p 1) then m_open a p d else a) ∧ FrH c σ τ) := by
  refine ev_intro ym_X2_isOpened.1 (Nat.le_of_ble_eq_true rfl) (fun hv hσ K S => ?_)
  have hv := hv
  show K 0 [some (kr c), some (ki p), some (ki d)] [] σ
  refine ks_aload_n (n := 1) S dX2_isOpened_0 rfl rfl ?_
  refine ks_iload_n (n := 2) S dX2_isOpened_1 rfl rfl ?_
  refine kf_v1z (n := 5) S dX2_isOpened_2 rfl ml_X2_73 ym_X0_hasPerson (ev_X0_hasPerson hH hR) (by decide) hH.o (Nat.le_of_ble_eq_true rfl) ?_
  refine ks_if_eq (n := 8) (tgt := 25) S dX2_isOpened_5 rfl rfl (fun h5 => ?_) (fun h5 => ?_)
  · skip
    simp only [bi_eq, bi_ne, Classical.not_not] at h5
    refine ks_iconst (n := 26) S dX2_isOpened_25 rfl (by unfold iv; decide) ?_
    refine ks_zret S dX2_isOpened_26 (by first | exact Or.inl rfl | exact Or.inr rfl | exact bi_01) ?_
    refine ⟨by rw [bi_f (by omega)], ?_, FrH.rf⟩
    rw [if_neg (by omega)]; exact hR
  · skip
    simp only [bi_eq, bi_ne, Classical.not_not] at h5
    refine ks_aload_n (n := 9) S dX2_isOpened_8 rfl rfl ?_
    refine ks_iload_n (n := 10) S dX2_isOpened_9 rfl rfl ?_
    refine kf_v1z (n := 13) S dX2_isOpened_10 rfl ml_X2_76 ym_X0_hasDoor (ev_X0_hasDoor hH hR) (by decide) hH.o (Nat.le_of_ble_eq_true rfl) ?_
    refine ks_if_eq (n := 16) (tgt := 25) S dX2_isOpened_13 rfl rfl (fun h13 => ?_) (fun h13 => ?_)
    · skip
      simp only [bi_eq, bi_ne, Classical.not_not] at h13
      refine ks_iconst (n := 26) S dX2_isOpened_25 rfl (by unfold iv; decide) ?_
      refine ks_zret S dX2_isOpened_26 (by first | exact Or.inl rfl | exact Or.inr rfl | exact bi_01) ?_
      refine ⟨by rw [bi_f (by omega)], ?_, FrH.rf⟩
      rw [if_neg (by omega)]; exact hR
    · skip
      simp only [bi_eq, bi_ne, Classical.not_not] at h13
      refine ks_aload_n (n := 17) S dX2_isOpened_16 rfl rfl ?_
      refine ks_iload_n (n := 18) S dX2_isOpened_17 rfl rfl ?_
      refine ks_iload_n (n := 19) S dX2_isOpened_18 rfl rfl ?_
      refine kf_v2z (n := 22) S dX2_isOpened_19 rfl ml_X2_79 ym_X0_canOpen (ev_X0_canOpen hH hR ok (by omega) (by omega)) (by decide) hH.o (Nat.le_of_ble_eq_true rfl) ?_
      refine ks_if_ne (n := 25) (tgt := 27) S dX2_isOpened_22 rfl rfl (fun h22 => ?_) (fun h22 => ?_)
      · skip
        simp only [bi_eq, bi_ne, Classical.not_not] at h22
        refine ks_aload_n (n := 28) S dX2_isOpened_27 rfl rfl ?_
        refine ks_iload_n (n := 29) S dX2_isOpened_28 rfl rfl ?_
        refine ks_iload_n (n := 30) S dX2_isOpened_29 rfl rfl ?_
        refine ks_v2v (n := 33) S dX2_isOpened_30 rfl ml_X2_82 ym_X0_open (ev_X0_open hH hR ok (by omega) (by omega) h22) (by decide) hH.o (Nat.le_of_ble_eq_true rfl) (fun τ30 q30 => ?_)
        obtain ⟨-, R2, F2⟩ := q30
        refine ks_iconst (n := 34) S dX2_isOpened_33 rfl (by unfold iv; decide) ?_
        refine ks_zret S dX2_isOpened_34 (by first | exact Or.inl rfl | exact Or.inr rfl | exact bi_01) ?_
        refine ⟨by rw [bi_t ⟨by omega, by omega, h22⟩], ?_, F2⟩
        rw [if_pos ⟨by omega, by omega, h22⟩]; exact R2
      · skip
        simp only [bi_eq, bi_ne, Classical.not_not] at h22
        refine ks_iconst (n := 26) S dX2_isOpened_25 rfl (by unfold iv; decide) ?_
        refine ks_zret S dX2_isOpened_26 (by first | exact Or.inl rfl | exact Or.inr rfl | exact bi_01) ?_
        refine ⟨by rw [bi_f (by omega)], ?_, FrH.rf⟩
        rw [if_neg (by omega)]; exact hR
end TELL4

