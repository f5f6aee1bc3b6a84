section TELL2
variable {l : Launch} {σ : KS} {w : RW} {n : Int}
theorem m_dg_b {j : Int} : 0 ≤ m_dg w n j ∧ m_dg w n j ≤ 9 := by unfold m_dg; split <;> omega
theorem ev_X2_twoDigits {j : Int} (h : m_LT σ w n) (hj : 0 ≤ j ∧ j ≤ 200) : Ev l yX2_twoDigits cX2_twoDigits 2 (some .int) 3 63 [kr 31, ki j] σ (Rt (some (ki (10 * m_dg w n j + m_dg w n (j + 1)))) σ) := by
  have b1 := m_dg_b (w := w) (n := n) (j := j)
  have b2 := m_dg_b (w := w) (n := n) (j := j + 1)
  refine ev_intro ym_X2_twoDigits.1 (Nat.le_of_ble_eq_true rfl) (fun hv hσ K S => ?_)
  have hv := hv
  show K 0 [some (kr 31), some (ki j)] [] σ
  refine ks_bipush (n := 2) S dX2_twoDigits_0 rfl (by unfold iv; decide) ?_
  refine ks_aload_n (n := 3) S dX2_twoDigits_2 rfl rfl ?_
  refine ks_iload_n (n := 4) S dX2_twoDigits_3 rfl rfl ?_
  refine kf_v1i (n := 7) S dX2_twoDigits_4 rfl ml_X2_27 ym_X2_digit (ev_X2_digit h) (by decide) rfl (Nat.le_of_ble_eq_true rfl) ?_
  refine ks_imul (n := 8) S dX2_twoDigits_7 rfl (by omega) ?_
  refine ks_aload_n (n := 9) S dX2_twoDigits_8 rfl rfl ?_
  refine ks_iload_n (n := 10) S dX2_twoDigits_9 rfl rfl ?_
  refine ks_iconst (n := 11) S dX2_twoDigits_10 rfl (by unfold iv; decide) ?_
  refine ks_iadd (n := 12) S dX2_twoDigits_11 rfl (by omega) ?_
  refine kf_v1i (n := 15) S dX2_twoDigits_12 rfl ml_X2_27 ym_X2_digit (ev_X2_digit h) (by decide) rfl (Nat.le_of_ble_eq_true rfl) ?_
  refine ks_iadd (n := 16) S dX2_twoDigits_15 rfl (by omega) ?_
  refine ks_iret S dX2_twoDigits_16 ?_
  exact rt_r
theorem ev_X2_lengthOf {c : Int} : Ev l yX2_lengthOf cX2_lengthOf 1 (some .int) 0 0 [ki c] σ (Rt (some (ki (m_ln c))) σ) := by
  refine ev_intro ym_X2_lengthOf.1 (Nat.le_of_ble_eq_true rfl) (fun hv hσ K S => ?_)
  have hv := hv
  show K 0 [some (ki c)] [] σ
  refine ks_iload_n (n := 1) S dX2_lengthOf_0 rfl rfl ?_
  refine ks_table S (tdf := 91) [89, 91, 91, 84, 91, 91, 91, 87, 91, 91, 91, 91, 91, 91, 87, 87, 84] dX2_lengthOf_1 (by decide) (by decide) rfl (fun h1 => ?_) (And.intro (fun h1 => ?_) (And.intro (fun h1 => ?_) (And.intro (fun h1 => ?_) (And.intro (fun h1 => ?_) (And.intro (fun h1 => ?_) (And.intro (fun h1 => ?_) (And.intro (fun h1 => ?_) (And.intro (fun h1 => ?_) (And.intro (fun h1 => ?_) (And.intro (fun h1 => ?_) (And.intro (fun h1 => ?_) (And.intro (fun h1 => ?_) (And.intro (fun h1 => ?_) (And.intro (fun h1 => ?_) (And.intro (fun h1 => ?_) (And.intro (fun h1 => ?_) (And.intro (fun h1 => ?_) trivial)))))))))))))))))
  · skip
    refine ks_iconst (n := 92) S dX2_lengthOf_91 rfl (by unfold iv; decide) ?_
    refine ks_iret S dX2_lengthOf_92 ?_
    exact rt_e (by unfold m_ln; (repeat' split) <;> omega)
  · skip
    refine ks_iconst (n := 90) S dX2_lengthOf_89 rfl (by unfold iv; decide) ?_
    refine ks_iret S dX2_lengthOf_90 ?_
    exact rt_e (by unfold m_ln; (repeat' split) <;> omega)
  · skip
    refine ks_iconst (n := 92) S dX2_lengthOf_91 rfl (by unfold iv; decide) ?_
    refine ks_iret S dX2_lengthOf_92 ?_
    exact rt_e (by unfold m_ln; (repeat' split) <;> omega)
  · skip
    refine ks_iconst (n := 92) S dX2_lengthOf_91 rfl (by unfold iv; decide) ?_
    refine ks_iret S dX2_lengthOf_92 ?_
    exact rt_e (by unfold m_ln; (repeat' split) <;> omega)
  · skip
    refine ks_bipush (n := 86) S dX2_lengthOf_84 rfl (by unfold iv; decide) ?_
    refine ks_iret S dX2_lengthOf_86 ?_
    exact rt_e (by unfold m_ln; (repeat' split) <;> omega)
  · skip
    refine ks_iconst (n := 92) S dX2_lengthOf_91 rfl (by unfold iv; decide) ?_
    refine ks_iret S dX2_lengthOf_92 ?_
    exact rt_e (by unfold m_ln; (repeat' split) <;> omega)
  · skip
    refine ks_iconst (n := 92) S dX2_lengthOf_91 rfl (by unfold iv; decide) ?_
    refine ks_iret S dX2_lengthOf_92 ?_
    exact rt_e (by unfold m_ln; (repeat' split) <;> omega)
  · skip
    refine ks_iconst (n := 92) S dX2_lengthOf_91 rfl (by unfold iv; decide) ?_
    refine ks_iret S dX2_lengthOf_92 ?_
    exact rt_e (by unfold m_ln; (repeat' split) <;> omega)
  · skip
    refine ks_iconst (n := 88) S dX2_lengthOf_87 rfl (by unfold iv; decide) ?_
    refine ks_iret S dX2_lengthOf_88 ?_
    exact rt_e (by unfold m_ln; (repeat' split) <;> omega)
  · skip
    refine ks_iconst (n := 92) S dX2_lengthOf_91 rfl (by unfold iv; decide) ?_
    refine ks_iret S dX2_lengthOf_92 ?_
    exact rt_e (by unfold m_ln; (repeat' split) <;> omega)
  · skip
    refine ks_iconst (n := 92) S dX2_lengthOf_91 rfl (by unfold iv; decide) ?_
    refine ks_iret S dX2_lengthOf_92 ?_
    exact rt_e (by unfold m_ln; (repeat' split) <;> omega)
  · skip
    refine ks_iconst (n := 92) S dX2_lengthOf_91 rfl (by unfold iv; decide) ?_
    refine ks_iret S dX2_lengthOf_92 ?_
    exact rt_e (by unfold m_ln; (repeat' split) <;> omega)
  · skip
    refine ks_iconst (n := 92) S dX2_lengthOf_91 rfl (by unfold iv; decide) ?_
    refine ks_iret S dX2_lengthOf_92 ?_
    exact rt_e (by unfold m_ln; (repeat' split) <;> omega)
  · skip
    refine ks_iconst (n := 92) S dX2_lengthOf_91 rfl (by unfold iv; decide) ?_
    refine ks_iret S dX2_lengthOf_92 ?_
    exact rt_e (by unfold m_ln; (repeat' split) <;> omega)
  · skip
    refine ks_iconst (n := 92) S dX2_lengthOf_91 rfl (by unfold iv; decide) ?_
    refine ks_iret S dX2_lengthOf_92 ?_
    exact rt_e (by unfold m_ln; (repeat' split) <;> omega)
  · skip
    refine ks_iconst (n := 88) S dX2_lengthOf_87 rfl (by unfold iv; decide) ?_
    refine ks_iret S dX2_lengthOf_88 ?_
    exact rt_e (by unfold m_ln; (repeat' split) <;> omega)
  · skip
    refine ks_iconst (n := 88) S dX2_lengthOf_87 rfl (by unfold iv; decide) ?_
    refine ks_iret S dX2_lengthOf_88 ?_
    exact rt_e (by unfold m_ln; (repeat' split) <;> omega)
  · skip
    refine ks_bipush (n := 86) S dX2_lengthOf_84 rfl (by unfold iv; decide) ?_
    refine ks_iret S dX2_lengthOf_86 ?_
    exact rt_e (by unfold m_ln; (repeat' split) <;> omega)
end TELL2

