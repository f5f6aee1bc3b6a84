section TELL3
variable {l : Launch} {σ : KS} {w a : RW} {n : Int} {c : Nat}
/-- does the letter at j fit into the statement of k letters that begins at b? -/
abbrev m_ft (w : RW) (n j b k : Int) : Prop := (j = b + k - 1 ∧ m_at w n j = 59) ∨ (j ≠ b + k - 1 ∧ j = b + 1 ∧ m_at w n b = 100 ∧ m_kind (m_at w n j) ≠ -9) ∨ (j ≠ b + k - 1 ∧ ¬ (j = b + 1 ∧ m_at w n b = 100) ∧ 48 ≤ m_at w n j ∧ m_at w n j ≤ 57)
theorem ev_X2_fits {j b k : Int} (h : m_LT σ w n) (hb : 0 ≤ b ∧ b ≤ 200) (hk : 0 ≤ k ∧ k ≤ 10) : Ev l yX2_fits cX2_fits 4 (some .boolean) 2 42 [kr 31, ki j, ki b, ki k] σ (Rt (some (ki (bi (m_ft w n j b k)))) σ) := by
  refine ev_intro ym_X2_fits.1 (Nat.le_of_ble_eq_true rfl) (fun hv hσ K S => ?_)
  have hv := hv
  show K 0 [some (kr 31), some (ki j), some (ki b), some (ki k)] [] σ
  refine ks_iload_n (n := 1) S dX2_fits_0 rfl rfl ?_
  refine ks_iload_n (n := 2) S dX2_fits_1 rfl rfl ?_
  refine ks_iload_n (n := 3) S dX2_fits_2 rfl rfl ?_
  refine ks_iadd (n := 4) S dX2_fits_3 rfl (by omega) ?_
  refine ks_iconst (n := 5) S dX2_fits_4 rfl (by unfold iv; decide) ?_
  refine ks_isub (n := 6) S dX2_fits_5 rfl (by omega) ?_
  refine ks_icmp_ne (n := 9) (tgt := 25) S dX2_fits_6 rfl rfl (fun h6 => ?_) (fun h6 => ?_)
  · skip
    refine ks_iload_n (n := 26) S dX2_fits_25 rfl rfl ?_
    refine ks_iload_n (n := 27) S dX2_fits_26 rfl rfl ?_
    refine ks_iconst (n := 28) S dX2_fits_27 rfl (by unfold iv; decide) ?_
    refine ks_iadd (n := 29) S dX2_fits_28 rfl (by omega) ?_
    refine ks_icmp_ne (n := 32) (tgt := 61) S dX2_fits_29 rfl rfl (fun h29 => ?_) (fun h29 => ?_)
    · skip
      refine ks_aload_n (n := 62) S dX2_fits_61 rfl rfl ?_
      refine ks_iload_n (n := 63) S dX2_fits_62 rfl rfl ?_
      refine kf_v1z (n := 66) S dX2_fits_63 rfl ml_X2_23 ym_X2_isDigit (ev_X2_isDigit h) (by decide) rfl (Nat.le_of_ble_eq_true rfl) ?_
      refine ks_zret S dX2_fits_66 (by first | exact Or.inl rfl | exact Or.inr rfl | exact bi_01) ?_
      by_cases hz : m_ig w n j
      · exact rt_e (by rw [bi_t hz, bi_t (by omega)])
      · exact rt_e (by rw [bi_f hz, bi_f (by omega)])
    · skip
      refine ks_aload_n (n := 33) S dX2_fits_32 rfl rfl ?_
      refine ks_iload_n (n := 34) S dX2_fits_33 rfl rfl ?_
      refine kf_v1i (n := 37) S dX2_fits_34 rfl ml_X2_19 ym_X2_at (ev_X2_at h) (by decide) rfl (Nat.le_of_ble_eq_true rfl) ?_
      refine ks_bipush (n := 39) S dX2_fits_37 rfl (by unfold iv; decide) ?_
      refine ks_icmp_ne (n := 42) (tgt := 61) S dX2_fits_39 rfl rfl (fun h39 => ?_) (fun h39 => ?_)
      · skip
        refine ks_aload_n (n := 62) S dX2_fits_61 rfl rfl ?_
        refine ks_iload_n (n := 63) S dX2_fits_62 rfl rfl ?_
        refine kf_v1z (n := 66) S dX2_fits_63 rfl ml_X2_23 ym_X2_isDigit (ev_X2_isDigit h) (by decide) rfl (Nat.le_of_ble_eq_true rfl) ?_
        refine ks_zret S dX2_fits_66 (by first | exact Or.inl rfl | exact Or.inr rfl | exact bi_01) ?_
        by_cases hz : m_ig w n j
        · exact rt_e (by rw [bi_t hz, bi_t (by omega)])
        · exact rt_e (by rw [bi_f hz, bi_f (by omega)])
      · skip
        refine ks_aload_n (n := 43) S dX2_fits_42 rfl rfl ?_
        refine ks_iload_n (n := 44) S dX2_fits_43 rfl rfl ?_
        refine kf_v1i (n := 47) S dX2_fits_44 rfl ml_X2_19 ym_X2_at (ev_X2_at h) (by decide) rfl (Nat.le_of_ble_eq_true rfl) ?_
        refine kf_s1i (n := 50) S dX2_fits_47 rfl ml_X2_37 ym_X1_ofLetter (ev_X1_ofLetter) (by decide) (Nat.le_of_ble_eq_true rfl) ?_
        refine ks_bipush (n := 52) S dX2_fits_50 rfl (by unfold iv; decide) ?_
        refine ks_icmp_eq (n := 55) (tgt := 59) S dX2_fits_52 rfl rfl (fun h52 => ?_) (fun h52 => ?_)
        · skip
          refine ks_iconst (n := 60) S dX2_fits_59 rfl (by unfold iv; decide) ?_
          refine ks_zret S dX2_fits_60 (by first | exact Or.inl rfl | exact Or.inr rfl | exact bi_01) ?_
          first | exact rt_e (by rw [bi_t (by omega)]) | exact rt_e (by rw [bi_f (by omega)])
        · skip
          refine ks_iconst (n := 56) S dX2_fits_55 rfl (by unfold iv; decide) ?_
          refine ks_goto (n := 60) S dX2_fits_56 rfl ?_
          refine ks_zret S dX2_fits_60 (by first | exact Or.inl rfl | exact Or.inr rfl | exact bi_01) ?_
          first | exact rt_e (by rw [bi_t (by omega)]) | exact rt_e (by rw [bi_f (by omega)])
  · skip
    refine ks_aload_n (n := 10) S dX2_fits_9 rfl rfl ?_
    refine ks_iload_n (n := 11) S dX2_fits_10 rfl rfl ?_
    refine kf_v1i (n := 14) S dX2_fits_11 rfl ml_X2_19 ym_X2_at (ev_X2_at h) (by decide) rfl (Nat.le_of_ble_eq_true rfl) ?_
    refine ks_bipush (n := 16) S dX2_fits_14 rfl (by unfold iv; decide) ?_
    refine ks_icmp_ne (n := 19) (tgt := 23) S dX2_fits_16 rfl rfl (fun h16 => ?_) (fun h16 => ?_)
    · skip
      refine ks_iconst (n := 24) S dX2_fits_23 rfl (by unfold iv; decide) ?_
      refine ks_zret S dX2_fits_24 (by first | exact Or.inl rfl | exact Or.inr rfl | exact bi_01) ?_
      first | exact rt_e (by rw [bi_t (by omega)]) | exact rt_e (by rw [bi_f (by omega)])
    · skip
      refine ks_iconst (n := 20) S dX2_fits_19 rfl (by unfold iv; decide) ?_
      refine ks_goto (n := 24) S dX2_fits_20 rfl ?_
      refine ks_zret S dX2_fits_24 (by first | exact Or.inl rfl | exact Or.inr rfl | exact bi_01) ?_
      first | exact rt_e (by rw [bi_t (by omega)]) | exact rt_e (by rw [bi_f (by omega)])
end TELL3

