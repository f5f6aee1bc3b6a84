section TELL
variable {l : Launch} {σ : KS} {w : RW} {n : Int}
/-- the letters told: n of them, in w -/
def m_at (w : RW) (n j : Int) : Int := if 0 ≤ j ∧ j < n then w j else -9
abbrev m_ig (w : RW) (n j : Int) : Prop := 48 ≤ m_at w n j ∧ m_at w n j ≤ 57
def m_dg (w : RW) (n j : Int) : Int := if m_ig w n j then m_at w n j - 48 else 0
def m_LT (σ : KS) (w : RW) (n : Int) : Prop := σ 31 1 = n ∧ (0 ≤ n ∧ n ≤ 96) ∧ ∀ j, 0 ≤ j → j < n → σ 32 j = w j
def m_ln (c : Int) : Int := if c = 100 ∨ c = 113 then 6 else if c = 112 ∨ c = 111 ∨ c = 104 then 4 else if c = 97 then 3 else 0
theorem ev_X2_at {j : Int} (h : m_LT σ w n) : Ev l yX2_at cX2_at 2 (some .int) 0 0 [kr 31, ki j] σ (Rt (some (ki (m_at w n j))) σ) := by
  obtain ⟨h1, h2, h3⟩ := h
  refine ev_intro ym_X2_at.1 (Nat.le_of_ble_eq_true rfl) (fun hv hσ K S => ?_)
  have hv := hv
  show K 0 [some (kr 31), some (ki j)] [] σ
  refine ks_iload_n (n := 1) S dX2_at_0 rfl rfl ?_
  refine ks_if_lt (n := 4) (tgt := 21) S dX2_at_1 rfl rfl (fun h1 => ?_) (fun h1 => ?_)
  · skip
    refine ks_bipush (n := 23) S dX2_at_21 rfl (by unfold iv; decide) ?_
    refine ks_iret S dX2_at_23 ?_
    first | exact rt_e (by unfold m_at; rw [if_neg (by omega)]) | exact rt_e (by unfold m_at; rw [if_pos (by omega), h3 j (by omega) (by omega)])
  · skip
    refine ks_iload_n (n := 5) S dX2_at_4 rfl rfl ?_
    refine ks_aload_n (n := 6) S dX2_at_5 rfl rfl ?_
    refine ks_getI (n := 9) (fi := 1) S dX2_at_6 rfl fl_X2_15 rfl rfl rfl ?_
    refine ks_icmp_ge (n := 12) (tgt := 21) S dX2_at_9 rfl rfl (fun h9 => ?_) (fun h9 => ?_)
    · skip
      refine ks_bipush (n := 23) S dX2_at_21 rfl (by unfold iv; decide) ?_
      refine ks_iret S dX2_at_23 ?_
      first | exact rt_e (by unfold m_at; rw [if_neg (by omega)]) | exact rt_e (by unfold m_at; rw [if_pos (by omega), h3 j (by omega) (by omega)])
    · skip
      refine ks_aload_n (n := 13) S dX2_at_12 rfl rfl ?_
      refine ks_getr (n := 16) S dX2_at_13 rfl fl_X2_9 rfl rfl ?_
      refine ks_iload_n (n := 17) S dX2_at_16 rfl rfl ?_
      refine ks_iaload (n := 18) S dX2_at_17 rfl rfl (by omega) ?_
      refine ks_goto (n := 23) S dX2_at_18 rfl ?_
      refine ks_iret S dX2_at_23 ?_
      first | exact rt_e (by unfold m_at; rw [if_neg (by omega)]) | exact rt_e (by unfold m_at; rw [if_pos (by omega), h3 j (by omega) (by omega)])
theorem ev_X2_isDigit {j : Int} (h : m_LT σ w n) : Ev l yX2_isDigit cX2_isDigit 2 (some .boolean) 1 21 [kr 31, ki j] σ (Rt (some (ki (bi (m_ig w n j)))) σ) := by
  refine ev_intro ym_X2_isDigit.1 (Nat.le_of_ble_eq_true rfl) (fun hv hσ K S => ?_)
  have hv := hv
  show K 0 [some (kr 31), some (ki j)] [] σ
  refine ks_aload_n (n := 1) S dX2_isDigit_0 rfl rfl ?_
  refine ks_iload_n (n := 2) S dX2_isDigit_1 rfl rfl ?_
  refine kf_v1i (n := 5) S dX2_isDigit_2 rfl ml_X2_19 ym_X2_at (ev_X2_at h) (by decide) rfl (Nat.le_of_ble_eq_true rfl) ?_
  refine ks_bipush (n := 7) S dX2_isDigit_5 rfl (by unfold iv; decide) ?_
  refine ks_icmp_lt (n := 10) (tgt := 24) S dX2_isDigit_7 rfl rfl (fun h7 => ?_) (fun h7 => ?_)
  · skip
    refine ks_iconst (n := 25) S dX2_isDigit_24 rfl (by unfold iv; decide) ?_
    refine ks_zret S dX2_isDigit_25 (by first | exact Or.inl rfl | exact Or.inr rfl | exact bi_01) ?_
    first | exact rt_e (by rw [bi_t (by omega)]) | exact rt_e (by rw [bi_f (by omega)])
  · skip
    refine ks_aload_n (n := 11) S dX2_isDigit_10 rfl rfl ?_
    refine ks_iload_n (n := 12) S dX2_isDigit_11 rfl rfl ?_
    refine kf_v1i (n := 15) S dX2_isDigit_12 rfl ml_X2_19 ym_X2_at (ev_X2_at h) (by decide) rfl (Nat.le_of_ble_eq_true rfl) ?_
    refine ks_bipush (n := 17) S dX2_isDigit_15 rfl (by unfold iv; decide) ?_
    refine ks_icmp_gt (n := 20) (tgt := 24) S dX2_isDigit_17 rfl rfl (fun h17 => ?_) (fun h17 => ?_)
    · skip
      refine ks_iconst (n := 25) S dX2_isDigit_24 rfl (by unfold iv; decide) ?_
      refine ks_zret S dX2_isDigit_25 (by first | exact Or.inl rfl | exact Or.inr rfl | exact bi_01) ?_
      first | exact rt_e (by rw [bi_t (by omega)]) | exact rt_e (by rw [bi_f (by omega)])
    · skip
      refine ks_iconst (n := 21) S dX2_isDigit_20 rfl (by unfold iv; decide) ?_
      refine ks_goto (n := 25) S dX2_isDigit_21 rfl ?_
      refine ks_zret S dX2_isDigit_25 (by first | exact Or.inl rfl | exact Or.inr rfl | exact bi_01) ?_
      first | exact rt_e (by rw [bi_t (by omega)]) | exact rt_e (by rw [bi_f (by omega)])
theorem ev_X2_digit {j : Int} (h : m_LT σ w n) : Ev l yX2_digit cX2_digit 2 (some .int) 2 42 [kr 31, ki j] σ (Rt (some (ki (m_dg w n j))) σ) := by
  refine ev_intro ym_X2_digit.1 (Nat.le_of_ble_eq_true rfl) (fun hv hσ K S => ?_)
  have hv := hv
  show K 0 [some (kr 31), some (ki j)] [] σ
  refine ks_aload_n (n := 1) S dX2_digit_0 rfl rfl ?_
  refine ks_iload_n (n := 2) S dX2_digit_1 rfl rfl ?_
  refine kf_v1z (n := 5) S dX2_digit_2 rfl ml_X2_23 ym_X2_isDigit (ev_X2_isDigit h) (by decide) rfl (Nat.le_of_ble_eq_true rfl) ?_
  refine ks_if_eq (n := 8) (tgt := 19) S dX2_digit_5 rfl rfl (fun h5 => ?_) (fun h5 => ?_)
  · skip
    simp only [bi_eq, bi_ne, Classical.not_not] at h5
    refine ks_iconst (n := 20) S dX2_digit_19 rfl (by unfold iv; decide) ?_
    refine ks_iret S dX2_digit_20 ?_
    first | exact rt_e (by unfold m_dg; rw [if_pos (by omega)]) | exact rt_e (by unfold m_dg; rw [if_neg (by omega)])
  · skip
    simp only [bi_eq, bi_ne, Classical.not_not] at h5
    refine ks_aload_n (n := 9) S dX2_digit_8 rfl rfl ?_
    refine ks_iload_n (n := 10) S dX2_digit_9 rfl rfl ?_
    refine kf_v1i (n := 13) S dX2_digit_10 rfl ml_X2_19 ym_X2_at (ev_X2_at h) (by decide) rfl (Nat.le_of_ble_eq_true rfl) ?_
    refine ks_bipush (n := 15) S dX2_digit_13 rfl (by unfold iv; decide) ?_
    refine ks_isub (n := 16) S dX2_digit_15 rfl (by omega) ?_
    refine ks_goto (n := 20) S dX2_digit_16 rfl ?_
    refine ks_iret S dX2_digit_20 ?_
    first | exact rt_e (by unfold m_dg; rw [if_pos (by omega)]) | exact rt_e (by unfold m_dg; rw [if_neg (by omega)])
end TELL

