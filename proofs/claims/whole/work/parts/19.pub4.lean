section PUB4
variable {l : Launch} {σ M : KS}
theorem m_open_D {a : RW} {p d e w : Int} (hp : 0 ≤ p) (hd : 0 ≤ d ∧ d < 9) (he : 0 ≤ e ∧ e < 9) (hw : 0 ≤ w ∧ w < 4) : aD (m_open a p d) e w = aD a e w := by
  unfold aD
  rw [m_open_at hd hp, if_neg (by omega), if_neg (by omega), if_neg (by omega), if_neg (by omega)]
theorem m_open_P {a : RW} {p q d w : Int} (hp : 0 ≤ p) (hd : 0 ≤ d ∧ d < 9) (hq : 0 ≤ q ∧ q ≠ p) (hw : 0 ≤ w ∧ w < 3) : aP (m_open a p d) q w = aP a q w := by
  unfold aP
  rw [m_open_at hd hp, if_neg (by omega), if_neg (by omega), if_neg (by omega), if_neg (by omega)]
theorem m_open_T {a : RW} {p d : Int} (hp : 0 ≤ p) (hd : 0 ≤ d ∧ d < 9) : aP (m_open a p d) p 0 = aP a p 0 := by
  unfold aP
  rw [m_open_at hd hp, if_neg (by omega), if_neg (by omega), if_neg (by omega), if_neg (by omega)]
/-- two in one room, and a door of it -/
def m_tw (a : RW) (x y d : Int) : Prop := (0 ≤ x ∧ x < a 1) ∧ (0 ≤ y ∧ y < a 1) ∧ x ≠ y ∧ (0 ≤ d ∧ d < a 0) ∧ aP a x 1 = aP a y 1 ∧ m_of a d (aP a x 1)
def m_nt (a : RW) (x y d : Int) : Int := if ¬ ((0 ≤ x ∧ x < a 1) ∧ (0 ≤ y ∧ y < a 1) ∧ x ≠ y ∧ (0 ≤ d ∧ d < a 0)) then -1 else if ¬ (aP a x 1 = aP a y 1 ∧ m_of a d (aP a x 1)) then -3 else 0
theorem m_nt_c (a : RW) (x y d : Int) : m_nt a x y d = -1 ∨ m_nt a x y d = -3 ∨ (m_nt a x y d = 0 ∧ m_tw a x y d) := by
  unfold m_nt m_tw
  split
  · exact Or.inl rfl
  · split
    · exact Or.inr (Or.inl rfl)
    · exact Or.inr (Or.inr ⟨rfl, by omega⟩)
def m_xy (s : RW) (a x b y d : Int) : RW := if y = 1 then m_open (if x = 1 then m_open s a d else s) b d else (if x = 1 then m_open s a d else s)
theorem m_x_f {s : RW} {a b d : Int} (ok : OkR s) (h : m_tw s a b d) (x : Int) : OkR (if x = 1 then m_open s a d else s) ∧ (if x = 1 then m_open s a d else s) 0 = s 0 ∧ (if x = 1 then m_open s a d else s) 1 = s 1 ∧ m_of (if x = 1 then m_open s a d else s) d (aP (if x = 1 then m_open s a d else s) b 1) := by
  obtain ⟨h1, h2, h3, h4, h5, h6⟩ := h
  have n9 := ok.1
  have hof : m_of s d (aP s b 1) := by rw [← h5]; exact h6
  split
  · have z := m_open_012 (a := s) (p := a) (d := d) h1.1 (by omega)
    refine ⟨m_open_ok ok h1 h4 h6, z.1, z.2.1, ?_⟩
    unfold m_of
    rw [m_open_D h1.1 (by omega) (by omega) (by omega), m_open_D h1.1 (by omega) (by omega) (by omega), m_open_P h1.1 (by omega) ⟨h2.1, fun e => h3 e.symm⟩ (by omega)]
    exact hof
  · exact ⟨ok, rfl, rfl, hof⟩
theorem m_xy_ok {s : RW} {a b d : Int} (ok : OkR s) (h : m_tw s a b d) (x y : Int) : OkR (m_xy s a x b y d) ∧ m_xy s a x b y d 0 = s 0 ∧ m_xy s a x b y d 1 = s 1 := by
  obtain ⟨q1, q2, q3, q4⟩ := m_x_f ok h x
  have n9 := ok.1
  unfold m_xy
  by_cases hy : y = 1
  · rw [if_pos hy]
    have hb : 0 ≤ b ∧ b < (if x = 1 then m_open s a d else s) 1 := by rw [q3]; exact h.2.1
    have hd : 0 ≤ d ∧ d < (if x = 1 then m_open s a d else s) 0 := by rw [q2]; exact h.2.2.2.1
    have z := m_open_012 (a := if x = 1 then m_open s a d else s) (p := b) (d := d) hb.1 (by omega)
    exact ⟨m_open_ok q1 hb hd q4, by rw [z.1, q2], by rw [z.2.1, q3]⟩
  · rw [if_neg hy]; exact ⟨q1, q2, q3⟩
theorem m_xy_z {s : RW} {a b d : Int} (ok : OkR s) (h : m_tw s a b d) (hz : Zr s) (x y : Int) : Zr (m_xy s a x b y d) := by
  obtain ⟨h1, h2, h3, h4, h5, h6⟩ := h
  have n9 := ok.1
  have n6 := ok.2.1
  have z1 : Zr (if x = 1 then m_open s a d else s) := by split; exact m_open_z hz (by omega) (by omega); exact hz
  unfold m_xy
  split
  · exact m_open_z z1 (by omega) (by omega)
  · exact z1
theorem RC.th {τ : KS} (hC : RC σ M) (F : FrH 11 σ τ) : RC τ M := hC.fr (FrT.ofH F)
theorem ev_X4_notTogether {a b d : Int} (hM : OkM M) (hC : RC σ M) : Ev l yX4_notTogether cX4_notTogether 4 (some .int) 2 44 [kr 0, ki a, ki b, ki d] σ (Rt (some (ki (m_nt (M 39) a b d))) σ) := by
  have R := hC.1
  have ok := hM.1
  have n9 := ok.1
  have n6 := ok.2.1
  refine ev_intro ym_X4_notTogether.1 (Nat.le_of_ble_eq_true rfl) (fun hv hσ K S => ?_)
  have hv := hv
  show K 0 [some (kr 0), some (ki a), some (ki b), some (ki d)] [] σ
  refine ks_aload_n (n := 1) S dX4_notTogether_0 rfl rfl ?_
  refine ks_getr (n := 4) S dX4_notTogether_1 rfl fl_X4_10 rfl rfl ?_
  refine ks_iload_n (n := 5) S dX4_notTogether_4 rfl rfl ?_
  refine kf_v1z (n := 8) S dX4_notTogether_5 rfl ml_X4_99 ym_X0_hasPerson (ev_X0_hasPerson kq_H1 R) (by decide) kq_H1.o (Nat.le_of_ble_eq_true rfl) ?_
  refine ks_if_eq (n := 11) (tgt := 38) S dX4_notTogether_8 rfl rfl (fun h8 => ?_) (fun h8 => ?_)
  · skip
    simp only [bi_eq, bi_ne] at h8
    refine ks_iconst (n := 39) S dX4_notTogether_38 rfl (by unfold iv; decide) ?_
    refine ks_iret S dX4_notTogether_39 ?_
    exact rt_e (by unfold m_nt; (repeat' split) <;> first | rfl | omega)
  · skip
    simp only [bi_eq, bi_ne] at h8
    refine ks_aload_n (n := 12) S dX4_notTogether_11 rfl rfl ?_
    refine ks_getr (n := 15) S dX4_notTogether_12 rfl fl_X4_10 rfl rfl ?_
    refine ks_iload_n (n := 16) S dX4_notTogether_15 rfl rfl ?_
    refine kf_v1z (n := 19) S dX4_notTogether_16 rfl ml_X4_99 ym_X0_hasPerson (ev_X0_hasPerson kq_H1 R) (by decide) kq_H1.o (Nat.le_of_ble_eq_true rfl) ?_
    refine ks_if_eq (n := 22) (tgt := 38) S dX4_notTogether_19 rfl rfl (fun h19 => ?_) (fun h19 => ?_)
    · skip
      simp only [bi_eq, bi_ne] at h19
      refine ks_iconst (n := 39) S dX4_notTogether_38 rfl (by unfold iv; decide) ?_
      refine ks_iret S dX4_notTogether_39 ?_
      exact rt_e (by unfold m_nt; (repeat' split) <;> first | rfl | omega)
    · skip
      simp only [bi_eq, bi_ne] at h19
      refine ks_iload_n (n := 23) S dX4_notTogether_22 rfl rfl ?_
      refine ks_iload_n (n := 24) S dX4_notTogether_23 rfl rfl ?_
      refine ks_icmp_eq (n := 27) (tgt := 38) S dX4_notTogether_24 rfl rfl (fun h24 => ?_) (fun h24 => ?_)
      · skip
        refine ks_iconst (n := 39) S dX4_notTogether_38 rfl (by unfold iv; decide) ?_
        refine ks_iret S dX4_notTogether_39 ?_
        exact rt_e (by unfold m_nt; (repeat' split) <;> first | rfl | omega)
      · skip
        refine ks_aload_n (n := 28) S dX4_notTogether_27 rfl rfl ?_
        refine ks_getr (n := 31) S dX4_notTogether_28 rfl fl_X4_10 rfl rfl ?_
        refine ks_iload_n (n := 32) S dX4_notTogether_31 rfl rfl ?_
        refine kf_v1z (n := 35) S dX4_notTogether_32 rfl ml_X4_74 ym_X0_hasDoor (ev_X0_hasDoor kq_H1 R) (by decide) kq_H1.o (Nat.le_of_ble_eq_true rfl) ?_
        refine ks_if_ne (n := 38) (tgt := 40) S dX4_notTogether_35 rfl rfl (fun h35 => ?_) (fun h35 => ?_)
        · skip
          simp only [bi_eq, bi_ne] at h35
          have e1 := (R.2.2.2.2 a (by omega) (by omega)).2.1
          have e2 := (R.2.2.2.2 b (by omega) (by omega)).2.1
          refine ks_aload_n (n := 41) S dX4_notTogether_40 rfl rfl ?_
          refine ks_getr (n := 44) S dX4_notTogether_41 rfl fl_X4_10 rfl rfl ?_
          refine ks_getr (n := 47) S dX4_notTogether_44 rfl fl_X4_105 kq_H1.o rfl ?_
          refine ks_iload_n (n := 48) S dX4_notTogether_47 rfl rfl ?_
          refine ks_iaload (n := 49) S dX4_notTogether_48 rfl kq_H1.a8 (by omega) ?_
          refine ks_aload_n (n := 50) S dX4_notTogether_49 rfl rfl ?_
          refine ks_getr (n := 53) S dX4_notTogether_50 rfl fl_X4_10 rfl rfl ?_
          refine ks_getr (n := 56) S dX4_notTogether_53 rfl fl_X4_105 kq_H1.o rfl ?_
          refine ks_iload_n (n := 57) S dX4_notTogether_56 rfl rfl ?_
          refine ks_iaload (n := 58) S dX4_notTogether_57 rfl kq_H1.a8 (by omega) ?_
          refine ks_icmp_ne (n := 61) (tgt := 73) S dX4_notTogether_58 rfl rfl (fun h58 => ?_) (fun h58 => ?_)
          · skip
            refine ks_bipush (n := 75) S dX4_notTogether_73 rfl (by unfold iv; decide) ?_
            refine ks_iret S dX4_notTogether_75 ?_
            exact rt_e (by unfold m_nt; (repeat' split) <;> first | rfl | omega)
          · skip
            refine ks_aload_n (n := 62) S dX4_notTogether_61 rfl rfl ?_
            refine ks_getr (n := 65) S dX4_notTogether_62 rfl fl_X4_10 rfl rfl ?_
            refine ks_iload_n (n := 66) S dX4_notTogether_65 rfl rfl ?_
            refine ks_iload_n (n := 67) S dX4_notTogether_66 rfl rfl ?_
            refine kf_v2z (n := 70) S dX4_notTogether_67 rfl ml_X4_114 ym_X0_canOpen (ev_X0_canOpen kq_H1 R ok (by omega) (by omega)) (by decide) kq_H1.o (Nat.le_of_ble_eq_true rfl) ?_
            refine ks_if_ne (n := 73) (tgt := 76) S dX4_notTogether_70 rfl rfl (fun h70 => ?_) (fun h70 => ?_)
            · skip
              simp only [bi_eq, bi_ne] at h70
              refine ks_iconst (n := 77) S dX4_notTogether_76 rfl (by unfold iv; decide) ?_
              refine ks_iret S dX4_notTogether_77 ?_
              exact rt_e (by unfold m_nt; (repeat' split) <;> first | rfl | omega)
            · skip
              simp only [bi_eq, bi_ne] at h70
              refine ks_bipush (n := 75) S dX4_notTogether_73 rfl (by unfold iv; decide) ?_
              refine ks_iret S dX4_notTogether_75 ?_
              exact rt_e (by unfold m_nt; (repeat' split) <;> first | rfl | omega)
        · skip
          simp only [bi_eq, bi_ne] at h35
          refine ks_iconst (n := 39) S dX4_notTogether_38 rfl (by unfold iv; decide) ?_
          refine ks_iret S dX4_notTogether_39 ?_
          exact rt_e (by unfold m_nt; (repeat' split) <;> first | rfl | omega)
theorem ev_X5_wrongTwo {a b d : Int} (ok : OkR (σ 39)) : Ev l yX5_wrongTwo cX5_wrongTwo 4 (some .int) 2 43 [kr 38, ki a, ki b, ki d] σ (Rt (some (ki (m_nt (σ 39) a b d))) σ) := by
  have n9 := ok.1
  have n6 := ok.2.1
  have e1 : aP (σ 39) a 1 = σ 39 (57 + 3 * a + 1) := rfl
  have e2 : aP (σ 39) b 1 = σ 39 (57 + 3 * b + 1) := rfl
  refine ev_intro ym_X5_wrongTwo.1 (Nat.le_of_ble_eq_true rfl) (fun hv hσ K S => ?_)
  have hv := hv
  show K 0 [some (kr 38), some (ki a), some (ki b), some (ki d)] [] σ
  refine ks_aload_n (n := 1) S dX5_wrongTwo_0 rfl rfl ?_
  refine ks_iload_n (n := 2) S dX5_wrongTwo_1 rfl rfl ?_
  refine kf_v1z (n := 5) S dX5_wrongTwo_2 rfl ml_X5_117 ym_X5_isPerson (ev_X5_isPerson n6) (by decide) rfl (Nat.le_of_ble_eq_true rfl) ?_
  refine ks_if_eq (n := 8) (tgt := 29) S dX5_wrongTwo_5 rfl rfl (fun h5 => ?_) (fun h5 => ?_)
  · skip
    simp only [bi_eq, bi_ne] at h5
    refine ks_iconst (n := 30) S dX5_wrongTwo_29 rfl (by unfold iv; decide) ?_
    refine ks_iret S dX5_wrongTwo_30 ?_
    exact rt_e (by unfold m_nt; (repeat' split) <;> first | rfl | omega)
  · skip
    simp only [bi_eq, bi_ne] at h5
    refine ks_aload_n (n := 9) S dX5_wrongTwo_8 rfl rfl ?_
    refine ks_iload_n (n := 10) S dX5_wrongTwo_9 rfl rfl ?_
    refine kf_v1z (n := 13) S dX5_wrongTwo_10 rfl ml_X5_117 ym_X5_isPerson (ev_X5_isPerson n6) (by decide) rfl (Nat.le_of_ble_eq_true rfl) ?_
    refine ks_if_eq (n := 16) (tgt := 29) S dX5_wrongTwo_13 rfl rfl (fun h13 => ?_) (fun h13 => ?_)
    · skip
      simp only [bi_eq, bi_ne] at h13
      refine ks_iconst (n := 30) S dX5_wrongTwo_29 rfl (by unfold iv; decide) ?_
      refine ks_iret S dX5_wrongTwo_30 ?_
      exact rt_e (by unfold m_nt; (repeat' split) <;> first | rfl | omega)
    · skip
      simp only [bi_eq, bi_ne] at h13
      refine ks_iload_n (n := 17) S dX5_wrongTwo_16 rfl rfl ?_
      refine ks_iload_n (n := 18) S dX5_wrongTwo_17 rfl rfl ?_
      refine ks_icmp_eq (n := 21) (tgt := 29) S dX5_wrongTwo_18 rfl rfl (fun h18 => ?_) (fun h18 => ?_)
      · skip
        refine ks_iconst (n := 30) S dX5_wrongTwo_29 rfl (by unfold iv; decide) ?_
        refine ks_iret S dX5_wrongTwo_30 ?_
        exact rt_e (by unfold m_nt; (repeat' split) <;> first | rfl | omega)
      · skip
        refine ks_aload_n (n := 22) S dX5_wrongTwo_21 rfl rfl ?_
        refine ks_iload_n (n := 23) S dX5_wrongTwo_22 rfl rfl ?_
        refine kf_v1z (n := 26) S dX5_wrongTwo_23 rfl ml_X5_120 ym_X5_isDoor (ev_X5_isDoor n9) (by decide) rfl (Nat.le_of_ble_eq_true rfl) ?_
        refine ks_if_ne (n := 29) (tgt := 31) S dX5_wrongTwo_26 rfl rfl (fun h26 => ?_) (fun h26 => ?_)
        · skip
          simp only [bi_eq, bi_ne] at h26
          refine ks_aload_n (n := 32) S dX5_wrongTwo_31 rfl rfl ?_
          refine ks_getr (n := 35) S dX5_wrongTwo_32 rfl fl_X5_9 rfl rfl ?_
          refine ks_iload_n (n := 36) S dX5_wrongTwo_35 rfl rfl ?_
          refine ks_iconst (n := 37) S dX5_wrongTwo_36 rfl (by unfold iv; decide) ?_
          refine kf_s2i (n := 40) S dX5_wrongTwo_37 rfl ml_X5_55 ym_X5_ofP (ev_X5_ofP (by omega) (by omega)) (by decide) (Nat.le_of_ble_eq_true rfl) ?_
          refine ks_iaload (n := 41) S dX5_wrongTwo_40 rfl rfl (by omega) ?_
          refine ks_aload_n (n := 42) S dX5_wrongTwo_41 rfl rfl ?_
          refine ks_getr (n := 45) S dX5_wrongTwo_42 rfl fl_X5_9 rfl rfl ?_
          refine ks_iload_n (n := 46) S dX5_wrongTwo_45 rfl rfl ?_
          refine ks_iconst (n := 47) S dX5_wrongTwo_46 rfl (by unfold iv; decide) ?_
          refine kf_s2i (n := 50) S dX5_wrongTwo_47 rfl ml_X5_55 ym_X5_ofP (ev_X5_ofP (by omega) (by omega)) (by decide) (Nat.le_of_ble_eq_true rfl) ?_
          refine ks_iaload (n := 51) S dX5_wrongTwo_50 rfl rfl (by omega) ?_
          refine ks_icmp_ne (n := 54) (tgt := 79) S dX5_wrongTwo_51 rfl rfl (fun h51 => ?_) (fun h51 => ?_)
          · skip
            refine ks_bipush (n := 81) S dX5_wrongTwo_79 rfl (by unfold iv; decide) ?_
            refine ks_iret S dX5_wrongTwo_81 ?_
            exact rt_e (by unfold m_nt; (repeat' split) <;> first | rfl | omega)
          · skip
            refine ks_aload_n (n := 55) S dX5_wrongTwo_54 rfl rfl ?_
            refine ks_getr (n := 58) S dX5_wrongTwo_55 rfl fl_X5_9 rfl rfl ?_
            refine ks_iload_n (n := 59) S dX5_wrongTwo_58 rfl rfl ?_
            refine ks_aload_n (n := 60) S dX5_wrongTwo_59 rfl rfl ?_
            refine ks_getr (n := 63) S dX5_wrongTwo_60 rfl fl_X5_9 rfl rfl ?_
            refine ks_iload_n (n := 64) S dX5_wrongTwo_63 rfl rfl ?_
            refine ks_iconst (n := 65) S dX5_wrongTwo_64 rfl (by unfold iv; decide) ?_
            refine kf_s2i (n := 68) S dX5_wrongTwo_65 rfl ml_X5_55 ym_X5_ofP (ev_X5_ofP (by omega) (by omega)) (by decide) (Nat.le_of_ble_eq_true rfl) ?_
            refine ks_iaload (n := 69) S dX5_wrongTwo_68 rfl rfl (by omega) ?_
            refine kf_s3z (n := 72) S dX5_wrongTwo_69 rfl ml_X5_123 ym_X5_isOf (ev_X5_isOf rfl (by omega)) (by decide) (Nat.le_of_ble_eq_true rfl) ?_
            refine ks_if_eq (n := 75) (tgt := 79) S dX5_wrongTwo_72 rfl rfl (fun h72 => ?_) (fun h72 => ?_)
            · skip
              simp only [bi_eq, bi_ne] at h72
              refine ks_bipush (n := 81) S dX5_wrongTwo_79 rfl (by unfold iv; decide) ?_
              refine ks_iret S dX5_wrongTwo_81 ?_
              exact rt_e (by unfold m_nt; (repeat' split) <;> first | rfl | omega)
            · skip
              simp only [bi_eq, bi_ne] at h72
              refine ks_iconst (n := 76) S dX5_wrongTwo_75 rfl (by unfold iv; decide) ?_
              refine ks_goto (n := 81) S dX5_wrongTwo_76 rfl ?_
              refine ks_iret S dX5_wrongTwo_81 ?_
              exact rt_e (by unfold m_nt; (repeat' split) <;> first | rfl | omega)
        · skip
          simp only [bi_eq, bi_ne] at h26
          refine ks_iconst (n := 30) S dX5_wrongTwo_29 rfl (by unfold iv; decide) ?_
          refine ks_iret S dX5_wrongTwo_30 ?_
          exact rt_e (by unfold m_nt; (repeat' split) <;> first | rfl | omega)
theorem ev_X4_openBoth {a b d : Int} (hM : OkM M) (hC : RC σ M) (h : m_tw (M 39) a b d) : Ev l yX4_openBoth cX4_openBoth 4 none 3 66 [kr 0, ki a, ki b, ki d] σ (fun r τ => r = none ∧ RepH τ 11 (m_xy (M 39) a 1 b 1 d) ∧ FrT σ τ) := by
  have R := hC.1
  have ok := hM.1
  have n9 := ok.1
  obtain ⟨q1, q2, q3, q4⟩ := m_x_f ok h 1
  rw [if_pos rfl] at q1 q2 q3 q4
  refine ev_intro ym_X4_openBoth.1 (Nat.le_of_ble_eq_true rfl) (fun hv hσ K S => ?_)
  have hv := hv
  show K 0 [some (kr 0), some (ki a), some (ki b), some (ki d)] [] σ
  refine ks_aload_n (n := 1) S dX4_openBoth_0 rfl rfl ?_
  refine ks_getr (n := 4) S dX4_openBoth_1 rfl fl_X4_16 rfl rfl ?_
  refine ks_aload_n (n := 5) S dX4_openBoth_4 rfl rfl ?_
  refine ks_getr (n := 8) S dX4_openBoth_5 rfl fl_X4_10 rfl rfl ?_
  refine ks_v1v (n := 11) S dX4_openBoth_8 rfl ml_X4_66 ym_X0_copyFrom (ev_X0_copyFrom kq_H11 kq_H1 (by decide) R ok) (by decide) kq_H11.o (Nat.le_of_ble_eq_true rfl) (fun τ8 q8 => ?_)
  obtain ⟨-, R1, F1⟩ := q8
  refine ks_aload_n (n := 12) S dX4_openBoth_11 rfl rfl ?_
  refine ks_getr (n := 15) S dX4_openBoth_12 rfl fl_X4_16 rfl rfl ?_
  refine ks_iload_n (n := 16) S dX4_openBoth_15 rfl rfl ?_
  refine ks_iload_n (n := 17) S dX4_openBoth_16 rfl rfl ?_
  refine ks_v2v (n := 20) S dX4_openBoth_17 rfl ml_X4_118 ym_X0_open (ev_X0_open kq_H11 R1 ok h.1 h.2.2.2.1 h.2.2.2.2.2) (by decide) kq_H11.o (Nat.le_of_ble_eq_true rfl) (fun τ17 q17 => ?_)
  obtain ⟨-, R2, F2⟩ := q17
  refine ks_aload_n (n := 21) S dX4_openBoth_20 rfl rfl ?_
  refine ks_getr (n := 24) S dX4_openBoth_21 rfl fl_X4_16 rfl rfl ?_
  refine ks_iload_n (n := 25) S dX4_openBoth_24 rfl rfl ?_
  refine ks_iload_n (n := 26) S dX4_openBoth_25 rfl rfl ?_
  refine ks_v2v (n := 29) S dX4_openBoth_26 rfl ml_X4_118 ym_X0_open (ev_X0_open kq_H11 R2 q1 (by rw [q3]; exact h.2.1) (by rw [q2]; exact h.2.2.2.1) q4) (by decide) kq_H11.o (Nat.le_of_ble_eq_true rfl) (fun τ26 q26 => ?_)
  obtain ⟨-, R3, F3⟩ := q26
  refine ks_vret S dX4_openBoth_29 ?_
  exact ⟨rfl, R3, FrT.ofH ((F1.tr F2).tr F3)⟩
theorem ev_X5_opensBoth {a x b y d : Int} (ok : OkR (σ 39)) (z1 : Zr (σ 39)) (z2 : Zr (σ 40)) (h : m_tw (σ 39) a b d) : Ev l yX5_opensBoth cX5_opensBoth 6 none 3 66 [kr 38, ki a, ki x, ki b, ki y, ki d] σ (Rt none (sr σ 40 (m_xy (σ 39) a x b y d))) := by
  have n9 := ok.1
  obtain ⟨q1, q2, q3, q4⟩ := m_x_f ok h x
  have h4 := h.2.2.2.1
  have h2 := h.2.1
  have h1 := h.1
  refine ev_intro ym_X5_opensBoth.1 (Nat.le_of_ble_eq_true rfl) (fun hv hσ K S => ?_)
  have hv := hv
  show K 0 [some (kr 38), some (ki a), some (ki x), some (ki b), some (ki y), some (ki d)] [] σ
  refine ks_aload_n (n := 1) S dX5_opensBoth_0 rfl rfl ?_
  refine ks_getr (n := 4) S dX5_opensBoth_1 rfl fl_X5_9 rfl rfl ?_
  refine ks_aload_n (n := 5) S dX5_opensBoth_4 rfl rfl ?_
  refine ks_getr (n := 8) S dX5_opensBoth_5 rfl fl_X5_13 rfl rfl ?_
  refine kf_s2v (n := 11) S dX5_opensBoth_8 rfl ml_X5_137 ym_X5_copies (ev_X5_copies rfl rfl (by decide) z1 z2) (by decide) (Nat.le_of_ble_eq_true rfl) ?_
  refine ks_iload_n (n := 12) S dX5_opensBoth_11 rfl rfl ?_
  refine ks_iconst (n := 13) S dX5_opensBoth_12 rfl (by unfold iv; decide) ?_
  refine ks_icmp_ne (n := 16) (tgt := 26) S dX5_opensBoth_13 rfl rfl (fun h13 => ?_) (fun h13 => ?_)
  · skip
    first | rw [if_neg h13] at q1 q2 q3 q4 | rw [if_pos h13] at q1 q2 q3 q4
    refine ks_iload (n := 28) S dX5_opensBoth_26 rfl rfl ?_
    refine ks_iconst (n := 29) S dX5_opensBoth_28 rfl (by unfold iv; decide) ?_
    refine ks_icmp_ne (n := 32) (tgt := 42) S dX5_opensBoth_29 rfl rfl (fun h29 => ?_) (fun h29 => ?_)
    · skip
      refine ks_vret S dX5_opensBoth_42 ?_
      refine ⟨rfl, ?_⟩
      unfold m_xy
      first | (rw [if_pos h29, if_pos h13, sr_r, sr_sr]) | (rw [if_pos h29, if_neg h13, sr_r, sr_sr]) | (rw [if_neg h29, if_pos h13]) | (rw [if_neg h29, if_neg h13])
    · skip
      refine ks_aload_n (n := 33) S dX5_opensBoth_32 rfl rfl ?_
      refine ks_getr (n := 36) S dX5_opensBoth_33 rfl fl_X5_13 rfl rfl ?_
      refine ks_iload_n (n := 37) S dX5_opensBoth_36 rfl rfl ?_
      refine ks_iload (n := 39) S dX5_opensBoth_37 rfl rfl ?_
      refine kf_s3v (n := 42) S dX5_opensBoth_39 rfl ml_X5_127 ym_X5_opensIn (ev_X5_opensIn rfl (by rw [sr_r]; exact q1) (by rw [sr_r, q3]; exact h2) (by rw [sr_r, q2]; exact h4)) (by decide) (Nat.le_of_ble_eq_true rfl) ?_
      refine ks_vret S dX5_opensBoth_42 ?_
      refine ⟨rfl, ?_⟩
      unfold m_xy
      first | (rw [if_pos h29, if_pos h13, sr_r, sr_sr]) | (rw [if_pos h29, if_neg h13, sr_r, sr_sr]) | (rw [if_neg h29, if_pos h13]) | (rw [if_neg h29, if_neg h13])
  · skip
    first | rw [if_neg h13] at q1 q2 q3 q4 | rw [if_pos h13] at q1 q2 q3 q4
    refine ks_aload_n (n := 17) S dX5_opensBoth_16 rfl rfl ?_
    refine ks_getr (n := 20) S dX5_opensBoth_17 rfl fl_X5_13 rfl rfl ?_
    refine ks_iload_n (n := 21) S dX5_opensBoth_20 rfl rfl ?_
    refine ks_iload (n := 23) S dX5_opensBoth_21 rfl rfl ?_
    refine kf_s3v (n := 26) S dX5_opensBoth_23 rfl ml_X5_127 ym_X5_opensIn (ev_X5_opensIn rfl (by rw [sr_r]; exact ok) (by rw [sr_r]; exact h1) (by rw [sr_r]; exact h4)) (by decide) (Nat.le_of_ble_eq_true rfl) ?_
    rw [sr_r, sr_sr]
    refine ks_iload (n := 28) S dX5_opensBoth_26 rfl rfl ?_
    refine ks_iconst (n := 29) S dX5_opensBoth_28 rfl (by unfold iv; decide) ?_
    refine ks_icmp_ne (n := 32) (tgt := 42) S dX5_opensBoth_29 rfl rfl (fun h29 => ?_) (fun h29 => ?_)
    · skip
      refine ks_vret S dX5_opensBoth_42 ?_
      refine ⟨rfl, ?_⟩
      unfold m_xy
      first | (rw [if_pos h29, if_pos h13, sr_r, sr_sr]) | (rw [if_pos h29, if_neg h13, sr_r, sr_sr]) | (rw [if_neg h29, if_pos h13]) | (rw [if_neg h29, if_neg h13])
    · skip
      refine ks_aload_n (n := 33) S dX5_opensBoth_32 rfl rfl ?_
      refine ks_getr (n := 36) S dX5_opensBoth_33 rfl fl_X5_13 rfl rfl ?_
      refine ks_iload_n (n := 37) S dX5_opensBoth_36 rfl rfl ?_
      refine ks_iload (n := 39) S dX5_opensBoth_37 rfl rfl ?_
      refine kf_s3v (n := 42) S dX5_opensBoth_39 rfl ml_X5_127 ym_X5_opensIn (ev_X5_opensIn rfl (by rw [sr_r]; exact q1) (by rw [sr_r, q3]; exact h2) (by rw [sr_r, q2]; exact h4)) (by decide) (Nat.le_of_ble_eq_true rfl) ?_
      refine ks_vret S dX5_opensBoth_42 ?_
      refine ⟨rfl, ?_⟩
      unfold m_xy
      first | (rw [if_pos h29, if_pos h13, sr_r, sr_sr]) | (rw [if_pos h29, if_neg h13, sr_r, sr_sr]) | (rw [if_neg h29, if_pos h13]) | (rw [if_neg h29, if_neg h13])
def m_oo (s : RW) (a b d : Int) : Int := aP (m_xy s a 1 b 1 d) a 2 + aP (m_xy s a 1 b 1 d) b 2
def A_order (M : KS) (a b d : Int) : Int × KS := if m_nt (M 39) a b d ≠ 0 then (m_nt (M 39) a b d, rfM M (m_nt (M 39) a b d)) else (if m_oo (M 39) a b d = m_oo (M 39) b a d then (if a < b then a else b) else if m_oo (M 39) a b d < m_oo (M 39) b a d then a else b, M)
theorem m_tw_s {s : RW} {a b d : Int} (h : m_tw s a b d) : m_tw s b a d := by
  obtain ⟨h1, h2, h3, h4, h5, h6⟩ := h
  exact ⟨h2, h1, fun e => h3 e.symm, h4, h5.symm, by rw [← h5]; exact h6⟩
theorem pc_order {a b d : Int} (hM : OkM M) (hC : RC σ M) : Ev l yX4_order cX4_order 7 (some .int) 4 89 [kr 0, ki a, ki b, ki d] σ (QC (A_order M a b d) σ) := by
  have R := hC.1
  have ok := hM.1
  have n9 := ok.1
  have n6 := ok.2.1
  refine ev_intro ym_X4_order.1 (Nat.le_of_ble_eq_true rfl) (fun hv hσ K S => ?_)
  have hv := hv
  show K 0 [some (kr 0), some (ki a), some (ki b), some (ki d), none, none, none] [] σ
  refine ks_aload_n (n := 1) S dX4_order_0 rfl rfl ?_
  refine ks_iload_n (n := 2) S dX4_order_1 rfl rfl ?_
  refine ks_iload_n (n := 3) S dX4_order_2 rfl rfl ?_
  refine ks_iload_n (n := 4) S dX4_order_3 rfl rfl ?_
  refine kf_v3i (n := 7) S dX4_order_4 rfl ml_X4_190 ym_X4_notTogether (ev_X4_notTogether hM hC) (by decide) rfl (Nat.le_of_ble_eq_true rfl) ?_
  rcases m_nt_c (M 39) a b d with hw4 | hw4 | ⟨hw4, ht4⟩
  · skip
    rw [hw4]
    refine ks_istore (n := 9) S dX4_order_7 rfl (L' := fun y => [some (kr 0), some (ki a), some (ki b), some (ki d), some (ki y), none, none]) (Nat.le_of_ble_eq_true rfl) (fun _ => rfl) (fun v4_7 hv7 => ?_)
    obtain rfl : v4_7 = -1 := by omega
    refine ks_iload (n := 11) S dX4_order_9 rfl rfl ?_
    refine ks_if_ge (n := 14) (tgt := 21) S dX4_order_11 rfl rfl (fun h11 => ?_) (fun h11 => ?_)
    · omega
    refine ks_aload_n (n := 15) S dX4_order_14 rfl rfl ?_
    refine ks_iload (n := 17) S dX4_order_15 rfl rfl ?_
    refine kf_v1i (n := 20) S dX4_order_17 rfl ml_X4_51 ym_X4_refuse (ev_X4_refuse (by omega)) (by decide) rfl (Nat.le_of_ble_eq_true rfl) ?_
    refine ks_iret S dX4_order_20 ?_
    exact qc_r hC (by omega) (by unfold A_order; rw [hw4, if_pos (by decide)])
  · skip
    rw [hw4]
    refine ks_istore (n := 9) S dX4_order_7 rfl (L' := fun y => [some (kr 0), some (ki a), some (ki b), some (ki d), some (ki y), none, none]) (Nat.le_of_ble_eq_true rfl) (fun _ => rfl) (fun v4_7 hv7 => ?_)
    obtain rfl : v4_7 = -3 := by omega
    refine ks_iload (n := 11) S dX4_order_9 rfl rfl ?_
    refine ks_if_ge (n := 14) (tgt := 21) S dX4_order_11 rfl rfl (fun h11 => ?_) (fun h11 => ?_)
    · omega
    refine ks_aload_n (n := 15) S dX4_order_14 rfl rfl ?_
    refine ks_iload (n := 17) S dX4_order_15 rfl rfl ?_
    refine kf_v1i (n := 20) S dX4_order_17 rfl ml_X4_51 ym_X4_refuse (ev_X4_refuse (by omega)) (by decide) rfl (Nat.le_of_ble_eq_true rfl) ?_
    refine ks_iret S dX4_order_20 ?_
    exact qc_r hC (by omega) (by unfold A_order; rw [hw4, if_pos (by decide)])
  · skip
    rw [hw4]
    refine ks_istore (n := 9) S dX4_order_7 rfl (L' := fun y => [some (kr 0), some (ki a), some (ki b), some (ki d), some (ki y), none, none]) (Nat.le_of_ble_eq_true rfl) (fun _ => rfl) (fun v4_7 hv7 => ?_)
    obtain rfl : v4_7 = 0 := by omega
    refine ks_iload (n := 11) S dX4_order_9 rfl rfl ?_
    refine ks_if_ge (n := 14) (tgt := 21) S dX4_order_11 rfl rfl (fun h11 => ?_) (fun h11 => ?_)
    rotate_left
    · omega
    obtain ⟨k1, k2, k3⟩ := m_xy_ok ok ht4 1 1
    obtain ⟨j1, j2, j3⟩ := m_xy_ok ok (m_tw_s ht4) 1 1
    have ha := ht4.1
    have hb := ht4.2.1
    have p1 := k1.2.2.2.2 a ha.1 (by omega)
    have p2 := k1.2.2.2.2 b hb.1 (by omega)
    have p3 := j1.2.2.2.2 a ha.1 (by omega)
    have p4 := j1.2.2.2.2 b hb.1 (by omega)
    unfold OkP at p1 p2 p3 p4
    refine ks_aload_n (n := 22) S dX4_order_21 rfl rfl ?_
    refine ks_iload_n (n := 23) S dX4_order_22 rfl rfl ?_
    refine ks_iload_n (n := 24) S dX4_order_23 rfl rfl ?_
    refine ks_iload_n (n := 25) S dX4_order_24 rfl rfl ?_
    refine ks_v3v (n := 28) S dX4_order_25 rfl ml_X4_193 ym_X4_openBoth (ev_X4_openBoth hM hC ht4) (by decide) rfl (Nat.le_of_ble_eq_true rfl) (fun τ25 q25 => ?_)
    obtain ⟨-, R1, F1⟩ := q25
    have f1 := (R1.2.2.2.2 a ha.1 (by omega)).2.2
    have f2 := (R1.2.2.2.2 b hb.1 (by omega)).2.2
    refine ks_aload_n (n := 29) S dX4_order_28 rfl rfl ?_
    refine ks_getr (n := 32) S dX4_order_29 rfl fl_X4_16 rfl rfl ?_
    refine ks_getr (n := 35) S dX4_order_32 rfl fl_X4_108 kq_H11.o rfl ?_
    refine ks_iload_n (n := 36) S dX4_order_35 rfl rfl ?_
    refine ks_iaload (n := 37) S dX4_order_36 rfl kq_H11.a9 (by omega) ?_
    refine ks_aload_n (n := 38) S dX4_order_37 rfl rfl ?_
    refine ks_getr (n := 41) S dX4_order_38 rfl fl_X4_16 rfl rfl ?_
    refine ks_getr (n := 44) S dX4_order_41 rfl fl_X4_108 kq_H11.o rfl ?_
    refine ks_iload_n (n := 45) S dX4_order_44 rfl rfl ?_
    refine ks_iaload (n := 46) S dX4_order_45 rfl kq_H11.a9 (by omega) ?_
    refine ks_iadd (n := 47) S dX4_order_46 rfl (by omega) ?_
    refine ks_istore (n := 49) S dX4_order_47 rfl (L' := fun y => [some (kr 0), some (ki a), some (ki b), some (ki d), some (ki (0)), some (ki y), none]) (Nat.le_of_ble_eq_true rfl) (fun _ => rfl) (fun v5_47 hv47 => ?_)
    subst v5_47
    refine ks_aload_n (n := 50) S dX4_order_49 rfl rfl ?_
    refine ks_iload_n (n := 51) S dX4_order_50 rfl rfl ?_
    refine ks_iload_n (n := 52) S dX4_order_51 rfl rfl ?_
    refine ks_iload_n (n := 53) S dX4_order_52 rfl rfl ?_
    refine ks_v3v (n := 56) S dX4_order_53 rfl ml_X4_193 ym_X4_openBoth (ev_X4_openBoth hM (hC.fr F1) (m_tw_s ht4)) (by decide) rfl (Nat.le_of_ble_eq_true rfl) (fun τ53 q53 => ?_)
    obtain ⟨-, R2, F2⟩ := q53
    have f3 := (R2.2.2.2.2 a ha.1 (by omega)).2.2
    have f4 := (R2.2.2.2.2 b hb.1 (by omega)).2.2
    refine ks_aload_n (n := 57) S dX4_order_56 rfl rfl ?_
    refine ks_getr (n := 60) S dX4_order_57 rfl fl_X4_16 rfl rfl ?_
    refine ks_getr (n := 63) S dX4_order_60 rfl fl_X4_108 kq_H11.o rfl ?_
    refine ks_iload_n (n := 64) S dX4_order_63 rfl rfl ?_
    refine ks_iaload (n := 65) S dX4_order_64 rfl kq_H11.a9 (by omega) ?_
    refine ks_aload_n (n := 66) S dX4_order_65 rfl rfl ?_
    refine ks_getr (n := 69) S dX4_order_66 rfl fl_X4_16 rfl rfl ?_
    refine ks_getr (n := 72) S dX4_order_69 rfl fl_X4_108 kq_H11.o rfl ?_
    refine ks_iload_n (n := 73) S dX4_order_72 rfl rfl ?_
    refine ks_iaload (n := 74) S dX4_order_73 rfl kq_H11.a9 (by omega) ?_
    refine ks_iadd (n := 75) S dX4_order_74 rfl (by omega) ?_
    refine ks_istore (n := 77) S dX4_order_75 rfl (L' := fun y => [some (kr 0), some (ki a), some (ki b), some (ki d), some (ki (0)), some (ki _), some (ki y)]) (Nat.le_of_ble_eq_true rfl) (fun _ => rfl) (fun v6_75 hv75 => ?_)
    subst v6_75
    refine ks_iload (n := 79) S dX4_order_77 rfl rfl ?_
    refine ks_iload (n := 81) S dX4_order_79 rfl rfl ?_
    refine ks_icmp_ne (n := 84) (tgt := 90) S dX4_order_81 rfl rfl (fun h81 => ?_) (fun h81 => ?_)
    · skip
      refine ks_iload (n := 92) S dX4_order_90 rfl rfl ?_
      refine ks_iload (n := 94) S dX4_order_92 rfl rfl ?_
      refine ks_icmp_ge (n := 97) (tgt := 101) S dX4_order_94 rfl rfl (fun h94 => ?_) (fun h94 => ?_)
      · skip
        refine ks_iload_n (n := 102) S dX4_order_101 rfl rfl ?_
        refine ks_iret S dX4_order_102 ?_
        exact qc_t hC (F1.tr F2) (by unfold A_order; rw [hw4, if_neg (by decide), if_neg (by unfold m_oo; omega)]; refine congrArg (fun z => (z, M)) ?_; unfold m_oo; split <;> omega)
      · skip
        refine ks_iload_n (n := 98) S dX4_order_97 rfl rfl ?_
        refine ks_goto (n := 102) S dX4_order_98 rfl ?_
        refine ks_iret S dX4_order_102 ?_
        exact qc_t hC (F1.tr F2) (by unfold A_order; rw [hw4, if_neg (by decide), if_neg (by unfold m_oo; omega)]; refine congrArg (fun z => (z, M)) ?_; unfold m_oo; split <;> omega)
    · skip
      refine ks_iload_n (n := 85) S dX4_order_84 rfl rfl ?_
      refine ks_iload_n (n := 86) S dX4_order_85 rfl rfl ?_
      refine ks_mmin (n := 89) S dX4_order_86 rfl ml_X4_196 (by decide) (Nat.le_of_ble_eq_true rfl) ?_
      refine ks_iret S dX4_order_89 ?_
      exact qc_t hC (F1.tr F2) (by unfold A_order; rw [hw4, if_neg (by decide), if_pos (by unfold m_oo; omega)]; refine congrArg (fun z => (z, M)) ?_; (repeat' split) <;> omega)
theorem ev_X5_bothBy {a b d : Int} (ok : OkR (σ 39)) (z1 : Zr (σ 39)) (z2 : Zr (σ 40)) (h : m_tw (σ 39) a b d) : Ev l yX5_bothBy cX5_bothBy 4 (some .int) 4 91 [kr 38, ki a, ki b, ki d] σ (Rt (some (ki (m_oo (σ 39) a b d))) (sr σ 40 (m_xy (σ 39) a 1 b 1 d))) := by
  have n6 := ok.2.1
  obtain ⟨k1, k2, k3⟩ := m_xy_ok ok h 1 1
  have ha := h.1
  have hb := h.2.1
  have p1 := k1.2.2.2.2 a ha.1 (by omega)
  have p2 := k1.2.2.2.2 b hb.1 (by omega)
  unfold OkP at p1 p2
  have e1 : aP (m_xy (σ 39) a 1 b 1 d) a 2 = m_xy (σ 39) a 1 b 1 d (57 + 3 * a + 2) := rfl
  have e2 : aP (m_xy (σ 39) a 1 b 1 d) b 2 = m_xy (σ 39) a 1 b 1 d (57 + 3 * b + 2) := rfl
  refine ev_intro ym_X5_bothBy.1 (Nat.le_of_ble_eq_true rfl) (fun hv hσ K S => ?_)
  have hv := hv
  show K 0 [some (kr 38), some (ki a), some (ki b), some (ki d)] [] σ
  refine ks_aload_n (n := 1) S dX5_bothBy_0 rfl rfl ?_
  refine ks_iload_n (n := 2) S dX5_bothBy_1 rfl rfl ?_
  refine ks_iconst (n := 3) S dX5_bothBy_2 rfl (by unfold iv; decide) ?_
  refine ks_iload_n (n := 4) S dX5_bothBy_3 rfl rfl ?_
  refine ks_iconst (n := 5) S dX5_bothBy_4 rfl (by unfold iv; decide) ?_
  refine ks_iload_n (n := 6) S dX5_bothBy_5 rfl rfl ?_
  refine kf_v5v (n := 9) S dX5_bothBy_6 rfl ml_X5_191 ym_X5_opensBoth (ev_X5_opensBoth ok z1 z2 h) (by decide) rfl (Nat.le_of_ble_eq_true rfl) ?_
  refine ks_aload_n (n := 10) S dX5_bothBy_9 rfl rfl ?_
  refine ks_getr (n := 13) S dX5_bothBy_10 rfl fl_X5_13 rfl rfl ?_
  refine ks_iload_n (n := 14) S dX5_bothBy_13 rfl rfl ?_
  refine ks_iconst (n := 15) S dX5_bothBy_14 rfl (by unfold iv; decide) ?_
  refine kf_s2i (n := 18) S dX5_bothBy_15 rfl ml_X5_55 ym_X5_ofP (ev_X5_ofP (by omega) (by omega)) (by decide) (Nat.le_of_ble_eq_true rfl) ?_
  refine ks_iaload (n := 19) S dX5_bothBy_18 rfl rfl (by omega) ?_
  refine ks_aload_n (n := 20) S dX5_bothBy_19 rfl rfl ?_
  refine ks_getr (n := 23) S dX5_bothBy_20 rfl fl_X5_13 rfl rfl ?_
  refine ks_iload_n (n := 24) S dX5_bothBy_23 rfl rfl ?_
  refine ks_iconst (n := 25) S dX5_bothBy_24 rfl (by unfold iv; decide) ?_
  refine kf_s2i (n := 28) S dX5_bothBy_25 rfl ml_X5_55 ym_X5_ofP (ev_X5_ofP (by omega) (by omega)) (by decide) (Nat.le_of_ble_eq_true rfl) ?_
  refine ks_iaload (n := 29) S dX5_bothBy_28 rfl rfl (by omega) ?_
  rw [sr_r]
  refine ks_iadd (n := 30) S dX5_bothBy_29 rfl (by omega) ?_
  refine ks_iret S dX5_bothBy_30 ?_
  exact rt_r
theorem pr_order {a b d : Int} (hM : OkM M) (hR : RR σ M) : Ev l yX5_order cX5_order 7 (some .int) 5 114 [kr 38, ki a, ki b, ki d] σ (QR (A_order M a b d) σ) := by
  have e39 : σ 39 = M 39 := hR.1
  have ok : OkR (σ 39) := by rw [e39]; exact hM.1
  have n9 := ok.1
  have n6 := ok.2.1
  refine ev_intro ym_X5_order.1 (Nat.le_of_ble_eq_true rfl) (fun hv hσ K S => ?_)
  have hv := hv
  show K 0 [some (kr 38), some (ki a), some (ki b), some (ki d), none, none, none] [] σ
  refine ks_aload_n (n := 1) S dX5_order_0 rfl rfl ?_
  refine ks_iload_n (n := 2) S dX5_order_1 rfl rfl ?_
  refine ks_iload_n (n := 3) S dX5_order_2 rfl rfl ?_
  refine ks_iload_n (n := 4) S dX5_order_3 rfl rfl ?_
  refine kf_v3i (n := 7) S dX5_order_4 rfl ml_X5_195 ym_X5_wrongTwo (ev_X5_wrongTwo ok) (by decide) rfl (Nat.le_of_ble_eq_true rfl) ?_
  rcases m_nt_c (σ 39) a b d with hw4 | hw4 | ⟨hw4, ht4⟩
  · skip
    rw [hw4]
    refine ks_istore (n := 9) S dX5_order_7 rfl (L' := fun y => [some (kr 38), some (ki a), some (ki b), some (ki d), some (ki y), none, none]) (Nat.le_of_ble_eq_true rfl) (fun _ => rfl) (fun v4_7 hv7 => ?_)
    obtain rfl : v4_7 = -1 := by omega
    refine ks_iload (n := 11) S dX5_order_9 rfl rfl ?_
    refine ks_if_eq (n := 14) (tgt := 21) S dX5_order_11 rfl rfl (fun h11 => ?_) (fun h11 => ?_)
    · omega
    refine ks_aload_n (n := 15) S dX5_order_14 rfl rfl ?_
    refine ks_iload (n := 17) S dX5_order_15 rfl rfl ?_
    refine kf_v1i (n := 20) S dX5_order_17 rfl ml_X5_38 ym_X5_no (ev_X5_no (by omega)) (by decide) rfl (Nat.le_of_ble_eq_true rfl) ?_
    refine ks_iret S dX5_order_20 ?_
    exact qr_r hR (by unfold A_order; rw [← e39, hw4, if_pos (by decide)])
  · skip
    rw [hw4]
    refine ks_istore (n := 9) S dX5_order_7 rfl (L' := fun y => [some (kr 38), some (ki a), some (ki b), some (ki d), some (ki y), none, none]) (Nat.le_of_ble_eq_true rfl) (fun _ => rfl) (fun v4_7 hv7 => ?_)
    obtain rfl : v4_7 = -3 := by omega
    refine ks_iload (n := 11) S dX5_order_9 rfl rfl ?_
    refine ks_if_eq (n := 14) (tgt := 21) S dX5_order_11 rfl rfl (fun h11 => ?_) (fun h11 => ?_)
    · omega
    refine ks_aload_n (n := 15) S dX5_order_14 rfl rfl ?_
    refine ks_iload (n := 17) S dX5_order_15 rfl rfl ?_
    refine kf_v1i (n := 20) S dX5_order_17 rfl ml_X5_38 ym_X5_no (ev_X5_no (by omega)) (by decide) rfl (Nat.le_of_ble_eq_true rfl) ?_
    refine ks_iret S dX5_order_20 ?_
    exact qr_r hR (by unfold A_order; rw [← e39, hw4, if_pos (by decide)])
  · skip
    rw [hw4]
    refine ks_istore (n := 9) S dX5_order_7 rfl (L' := fun y => [some (kr 38), some (ki a), some (ki b), some (ki d), some (ki y), none, none]) (Nat.le_of_ble_eq_true rfl) (fun _ => rfl) (fun v4_7 hv7 => ?_)
    obtain rfl : v4_7 = 0 := by omega
    refine ks_iload (n := 11) S dX5_order_9 rfl rfl ?_
    refine ks_if_eq (n := 14) (tgt := 21) S dX5_order_11 rfl rfl (fun h11 => ?_) (fun h11 => ?_)
    rotate_left
    · omega
    have hz : Zr (σ 39) := by rw [e39]; exact hM.2.2.1
    refine ks_aload_n (n := 22) S dX5_order_21 rfl rfl ?_
    refine ks_iload_n (n := 23) S dX5_order_22 rfl rfl ?_
    refine ks_iload_n (n := 24) S dX5_order_23 rfl rfl ?_
    refine ks_iload_n (n := 25) S dX5_order_24 rfl rfl ?_
    refine kf_v3i (n := 28) S dX5_order_25 rfl ml_X5_198 ym_X5_bothBy (ev_X5_bothBy ok (by rw [e39]; exact hM.2.2.1) hR.2.2.2.2.2.2.2.2.1 ht4) (by decide) rfl (Nat.le_of_ble_eq_true rfl) ?_
    refine ks_istore (n := 30) S dX5_order_28 rfl (L' := fun y => [some (kr 38), some (ki a), some (ki b), some (ki d), some (ki (0)), some (ki y), none]) (Nat.le_of_ble_eq_true rfl) (fun _ => rfl) (fun v5_28 hv28 => ?_)
    subst v5_28
    refine ks_aload_n (n := 31) S dX5_order_30 rfl rfl ?_
    refine ks_iload_n (n := 32) S dX5_order_31 rfl rfl ?_
    refine ks_iload_n (n := 33) S dX5_order_32 rfl rfl ?_
    refine ks_iload_n (n := 34) S dX5_order_33 rfl rfl ?_
    refine kf_v3i (n := 37) S dX5_order_34 rfl ml_X5_198 ym_X5_bothBy (ev_X5_bothBy (by rw [sr_n (by decide)]; exact ok) (by rw [sr_n (by decide)]; exact hz) (by rw [sr_r]; exact m_xy_z ok ht4 hz 1 1) (by rw [sr_n (by decide)]; exact m_tw_s ht4)) (by decide) rfl (Nat.le_of_ble_eq_true rfl) ?_
    rw [sr_n (show (39 : Nat) ≠ 40 by decide), sr_sr]
    refine ks_istore (n := 39) S dX5_order_37 rfl (L' := fun y => [some (kr 38), some (ki a), some (ki b), some (ki d), some (ki (0)), some (ki _), some (ki y)]) (Nat.le_of_ble_eq_true rfl) (fun _ => rfl) (fun v6_37 hv37 => ?_)
    subst v6_37
    refine ks_iload (n := 41) S dX5_order_39 rfl rfl ?_
    refine ks_iload (n := 43) S dX5_order_41 rfl rfl ?_
    refine ks_icmp_ne (n := 46) (tgt := 59) S dX5_order_43 rfl rfl (fun h43 => ?_) (fun h43 => ?_)
    · skip
      refine ks_iload (n := 61) S dX5_order_59 rfl rfl ?_
      refine ks_iload (n := 63) S dX5_order_61 rfl rfl ?_
      refine ks_icmp_ge (n := 66) (tgt := 70) S dX5_order_63 rfl rfl (fun h63 => ?_) (fun h63 => ?_)
      · skip
        refine ks_iload_n (n := 71) S dX5_order_70 rfl rfl ?_
        refine ks_iret S dX5_order_71 ?_
        exact qr_t hR (FrQ.m (m_xy_z ok (m_tw_s ht4) hz 1 1)) (by unfold A_order; rw [← e39, hw4, if_neg (by decide)]; refine congrArg (fun z => (z, M)) ?_; (repeat' split) <;> omega)
      · skip
        refine ks_iload_n (n := 67) S dX5_order_66 rfl rfl ?_
        refine ks_goto (n := 71) S dX5_order_67 rfl ?_
        refine ks_iret S dX5_order_71 ?_
        exact qr_t hR (FrQ.m (m_xy_z ok (m_tw_s ht4) hz 1 1)) (by unfold A_order; rw [← e39, hw4, if_neg (by decide)]; refine congrArg (fun z => (z, M)) ?_; (repeat' split) <;> omega)
    · skip
      refine ks_iload_n (n := 47) S dX5_order_46 rfl rfl ?_
      refine ks_iload_n (n := 48) S dX5_order_47 rfl rfl ?_
      refine ks_icmp_ge (n := 51) (tgt := 55) S dX5_order_48 rfl rfl (fun h48 => ?_) (fun h48 => ?_)
      · skip
        refine ks_iload_n (n := 56) S dX5_order_55 rfl rfl ?_
        refine ks_goto (n := 71) S dX5_order_56 rfl ?_
        refine ks_iret S dX5_order_71 ?_
        exact qr_t hR (FrQ.m (m_xy_z ok (m_tw_s ht4) hz 1 1)) (by unfold A_order; rw [← e39, hw4, if_neg (by decide)]; refine congrArg (fun z => (z, M)) ?_; (repeat' split) <;> omega)
      · skip
        refine ks_iload_n (n := 52) S dX5_order_51 rfl rfl ?_
        refine ks_goto (n := 71) S dX5_order_52 rfl ?_
        refine ks_iret S dX5_order_71 ?_
        exact qr_t hR (FrQ.m (m_xy_z ok (m_tw_s ht4) hz 1 1)) (by unfold A_order; rw [← e39, hw4, if_neg (by decide)]; refine congrArg (fun z => (z, M)) ?_; (repeat' split) <;> omega)
def m_ec (s : RW) (a b d : Int) : Int := aP (m_xy s a 1 b 1 d) b 2 - aP (m_xy s a 0 b 1 d) b 2
def A_echo (M : KS) (a b d : Int) : Int × KS := if m_nt (M 39) a b d ≠ 0 then (1000000000 - m_nt (M 39) a b d, rfM M (m_nt (M 39) a b d)) else (m_ec (M 39) a b d, M)
theorem pc_echo {a b d : Int} (hM : OkM M) (hC : RC σ M) : Ev l yX4_echo cX4_echo 6 (some .int) 4 89 [kr 0, ki a, ki b, ki d] σ (QC (A_echo M a b d) σ) := by
  have R := hC.1
  have ok := hM.1
  have n9 := ok.1
  have n6 := ok.2.1
  refine ev_intro ym_X4_echo.1 (Nat.le_of_ble_eq_true rfl) (fun hv hσ K S => ?_)
  have hv := hv
  show K 0 [some (kr 0), some (ki a), some (ki b), some (ki d), none, none] [] σ
  refine ks_aload_n (n := 1) S dX4_echo_0 rfl rfl ?_
  refine ks_iload_n (n := 2) S dX4_echo_1 rfl rfl ?_
  refine ks_iload_n (n := 3) S dX4_echo_2 rfl rfl ?_
  refine ks_iload_n (n := 4) S dX4_echo_3 rfl rfl ?_
  refine kf_v3i (n := 7) S dX4_echo_4 rfl ml_X4_190 ym_X4_notTogether (ev_X4_notTogether hM hC) (by decide) rfl (Nat.le_of_ble_eq_true rfl) ?_
  rcases m_nt_c (M 39) a b d with hw4 | hw4 | ⟨hw4, ht4⟩
  · skip
    rw [hw4]
    refine ks_istore (n := 9) S dX4_echo_7 rfl (L' := fun y => [some (kr 0), some (ki a), some (ki b), some (ki d), some (ki y), none]) (Nat.le_of_ble_eq_true rfl) (fun _ => rfl) (fun v4_7 hv7 => ?_)
    obtain rfl : v4_7 = -1 := by omega
    refine ks_iload (n := 11) S dX4_echo_9 rfl rfl ?_
    refine ks_if_ge (n := 14) (tgt := 24) S dX4_echo_11 rfl rfl (fun h11 => ?_) (fun h11 => ?_)
    · omega
    refine ks_ldc (n := 16) (x := 1000000000) S dX4_echo_14 rfl ct_X4_201 (by unfold iv; decide +kernel) ?_
    refine ks_aload_n (n := 17) S dX4_echo_16 rfl rfl ?_
    refine ks_iload (n := 19) S dX4_echo_17 rfl rfl ?_
    refine kf_v1i (n := 22) S dX4_echo_19 rfl ml_X4_51 ym_X4_refuse (ev_X4_refuse (by omega)) (by decide) rfl (Nat.le_of_ble_eq_true rfl) ?_
    refine ks_isub (n := 23) S dX4_echo_22 rfl (by omega) ?_
    refine ks_iret S dX4_echo_23 ?_
    exact qc_mk (hC.ref (by omega)) (fun c hc => funext fun j => kq_up_c (by omega)) (by unfold A_echo; rw [hw4, if_pos (by decide)])
  · skip
    rw [hw4]
    refine ks_istore (n := 9) S dX4_echo_7 rfl (L' := fun y => [some (kr 0), some (ki a), some (ki b), some (ki d), some (ki y), none]) (Nat.le_of_ble_eq_true rfl) (fun _ => rfl) (fun v4_7 hv7 => ?_)
    obtain rfl : v4_7 = -3 := by omega
    refine ks_iload (n := 11) S dX4_echo_9 rfl rfl ?_
    refine ks_if_ge (n := 14) (tgt := 24) S dX4_echo_11 rfl rfl (fun h11 => ?_) (fun h11 => ?_)
    · omega
    refine ks_ldc (n := 16) (x := 1000000000) S dX4_echo_14 rfl ct_X4_201 (by unfold iv; decide +kernel) ?_
    refine ks_aload_n (n := 17) S dX4_echo_16 rfl rfl ?_
    refine ks_iload (n := 19) S dX4_echo_17 rfl rfl ?_
    refine kf_v1i (n := 22) S dX4_echo_19 rfl ml_X4_51 ym_X4_refuse (ev_X4_refuse (by omega)) (by decide) rfl (Nat.le_of_ble_eq_true rfl) ?_
    refine ks_isub (n := 23) S dX4_echo_22 rfl (by omega) ?_
    refine ks_iret S dX4_echo_23 ?_
    exact qc_mk (hC.ref (by omega)) (fun c hc => funext fun j => kq_up_c (by omega)) (by unfold A_echo; rw [hw4, if_pos (by decide)])
  · skip
    rw [hw4]
    refine ks_istore (n := 9) S dX4_echo_7 rfl (L' := fun y => [some (kr 0), some (ki a), some (ki b), some (ki d), some (ki y), none]) (Nat.le_of_ble_eq_true rfl) (fun _ => rfl) (fun v4_7 hv7 => ?_)
    obtain rfl : v4_7 = 0 := by omega
    refine ks_iload (n := 11) S dX4_echo_9 rfl rfl ?_
    refine ks_if_ge (n := 14) (tgt := 24) S dX4_echo_11 rfl rfl (fun h11 => ?_) (fun h11 => ?_)
    rotate_left
    · omega
    obtain ⟨k1, k2, k3⟩ := m_xy_ok ok ht4 1 1
    obtain ⟨j1, j2, j3⟩ := m_xy_ok ok ht4 0 1
    have hb := ht4.2.1
    have p2 := k1.2.2.2.2 b hb.1 (by omega)
    have p4 := j1.2.2.2.2 b hb.1 (by omega)
    unfold OkP at p2 p4
    refine ks_aload_n (n := 25) S dX4_echo_24 rfl rfl ?_
    refine ks_iload_n (n := 26) S dX4_echo_25 rfl rfl ?_
    refine ks_iload_n (n := 27) S dX4_echo_26 rfl rfl ?_
    refine ks_iload_n (n := 28) S dX4_echo_27 rfl rfl ?_
    refine ks_v3v (n := 31) S dX4_echo_28 rfl ml_X4_193 ym_X4_openBoth (ev_X4_openBoth hM hC ht4) (by decide) rfl (Nat.le_of_ble_eq_true rfl) (fun τ28 q28 => ?_)
    obtain ⟨-, R1, F1⟩ := q28
    have f2 := (R1.2.2.2.2 b hb.1 (by omega)).2.2
    refine ks_aload_n (n := 32) S dX4_echo_31 rfl rfl ?_
    refine ks_getr (n := 35) S dX4_echo_32 rfl fl_X4_16 rfl rfl ?_
    refine ks_getr (n := 38) S dX4_echo_35 rfl fl_X4_108 kq_H11.o rfl ?_
    refine ks_iload_n (n := 39) S dX4_echo_38 rfl rfl ?_
    refine ks_iaload (n := 40) S dX4_echo_39 rfl kq_H11.a9 (by omega) ?_
    refine ks_istore (n := 42) S dX4_echo_40 rfl (L' := fun y => [some (kr 0), some (ki a), some (ki b), some (ki d), some (ki (0)), some (ki y)]) (Nat.le_of_ble_eq_true rfl) (fun _ => rfl) (fun v5_40 hv40 => ?_)
    subst v5_40
    refine ks_aload_n (n := 43) S dX4_echo_42 rfl rfl ?_
    refine ks_getr (n := 46) S dX4_echo_43 rfl fl_X4_16 rfl rfl ?_
    refine ks_aload_n (n := 47) S dX4_echo_46 rfl rfl ?_
    refine ks_getr (n := 50) S dX4_echo_47 rfl fl_X4_10 rfl rfl ?_
    refine ks_v1v (n := 53) S dX4_echo_50 rfl ml_X4_66 ym_X0_copyFrom (ev_X0_copyFrom kq_H11 kq_H1 (by decide) (hC.fr F1).1 ok) (by decide) kq_H11.o (Nat.le_of_ble_eq_true rfl) (fun τ50 q50 => ?_)
    obtain ⟨-, R2, F2⟩ := q50
    refine ks_aload_n (n := 54) S dX4_echo_53 rfl rfl ?_
    refine ks_getr (n := 57) S dX4_echo_54 rfl fl_X4_16 rfl rfl ?_
    refine ks_iload_n (n := 58) S dX4_echo_57 rfl rfl ?_
    refine ks_iload_n (n := 59) S dX4_echo_58 rfl rfl ?_
    refine ks_v2v (n := 62) S dX4_echo_59 rfl ml_X4_118 ym_X0_open (ev_X0_open kq_H11 R2 ok hb ht4.2.2.2.1 (m_tw_s ht4).2.2.2.2.2) (by decide) kq_H11.o (Nat.le_of_ble_eq_true rfl) (fun τ59 q59 => ?_)
    obtain ⟨-, R3, F3⟩ := q59
    have R4 : RepH τ59 11 (m_xy (M 39) a 0 b 1 d) := R3
    have f4 := (R4.2.2.2.2 b hb.1 (by omega)).2.2
    refine ks_iload (n := 64) S dX4_echo_62 rfl rfl ?_
    refine ks_aload_n (n := 65) S dX4_echo_64 rfl rfl ?_
    refine ks_getr (n := 68) S dX4_echo_65 rfl fl_X4_16 rfl rfl ?_
    refine ks_getr (n := 71) S dX4_echo_68 rfl fl_X4_108 kq_H11.o rfl ?_
    refine ks_iload_n (n := 72) S dX4_echo_71 rfl rfl ?_
    refine ks_iaload (n := 73) S dX4_echo_72 rfl kq_H11.a9 (by omega) ?_
    refine ks_isub (n := 74) S dX4_echo_73 rfl (by omega) ?_
    refine ks_iret S dX4_echo_74 ?_
    exact qc_t hC (F1.tr (FrT.ofH (F2.tr F3))) (by unfold A_echo m_ec; rw [hw4, if_neg (by decide), f2, f4])
theorem pr_echo {a b d : Int} (hM : OkM M) (hR : RR σ M) : Ev l yX5_echo cX5_echo 6 (some .int) 4 91 [kr 38, ki a, ki b, ki d] σ (QR (A_echo M a b d) σ) := by
  have e39 : σ 39 = M 39 := hR.1
  have ok : OkR (σ 39) := by rw [e39]; exact hM.1
  have n9 := ok.1
  have n6 := ok.2.1
  refine ev_intro ym_X5_echo.1 (Nat.le_of_ble_eq_true rfl) (fun hv hσ K S => ?_)
  have hv := hv
  show K 0 [some (kr 38), some (ki a), some (ki b), some (ki d), none, none] [] σ
  refine ks_aload_n (n := 1) S dX5_echo_0 rfl rfl ?_
  refine ks_iload_n (n := 2) S dX5_echo_1 rfl rfl ?_
  refine ks_iload_n (n := 3) S dX5_echo_2 rfl rfl ?_
  refine ks_iload_n (n := 4) S dX5_echo_3 rfl rfl ?_
  refine kf_v3i (n := 7) S dX5_echo_4 rfl ml_X5_195 ym_X5_wrongTwo (ev_X5_wrongTwo ok) (by decide) rfl (Nat.le_of_ble_eq_true rfl) ?_
  rcases m_nt_c (σ 39) a b d with hw4 | hw4 | ⟨hw4, ht4⟩
  · skip
    rw [hw4]
    refine ks_istore (n := 9) S dX5_echo_7 rfl (L' := fun y => [some (kr 38), some (ki a), some (ki b), some (ki d), some (ki y), none]) (Nat.le_of_ble_eq_true rfl) (fun _ => rfl) (fun v4_7 hv7 => ?_)
    obtain rfl : v4_7 = -1 := by omega
    refine ks_iload (n := 11) S dX5_echo_9 rfl rfl ?_
    refine ks_if_eq (n := 14) (tgt := 21) S dX5_echo_11 rfl rfl (fun h11 => ?_) (fun h11 => ?_)
    · omega
    refine ks_aload_n (n := 15) S dX5_echo_14 rfl rfl ?_
    refine ks_iload (n := 17) S dX5_echo_15 rfl rfl ?_
    refine kf_v1i (n := 20) S dX5_echo_17 rfl ml_X5_201 ym_X5_noFar (ev_X5_noFar (by omega)) (by decide) rfl (Nat.le_of_ble_eq_true rfl) ?_
    refine ks_iret S dX5_echo_20 ?_
    exact qr_mk hR.ref (fun c hc => funext fun j => kq_up_c (by omega)) (by unfold A_echo; rw [← e39, hw4, if_pos (by decide)])
  · skip
    rw [hw4]
    refine ks_istore (n := 9) S dX5_echo_7 rfl (L' := fun y => [some (kr 38), some (ki a), some (ki b), some (ki d), some (ki y), none]) (Nat.le_of_ble_eq_true rfl) (fun _ => rfl) (fun v4_7 hv7 => ?_)
    obtain rfl : v4_7 = -3 := by omega
    refine ks_iload (n := 11) S dX5_echo_9 rfl rfl ?_
    refine ks_if_eq (n := 14) (tgt := 21) S dX5_echo_11 rfl rfl (fun h11 => ?_) (fun h11 => ?_)
    · omega
    refine ks_aload_n (n := 15) S dX5_echo_14 rfl rfl ?_
    refine ks_iload (n := 17) S dX5_echo_15 rfl rfl ?_
    refine kf_v1i (n := 20) S dX5_echo_17 rfl ml_X5_201 ym_X5_noFar (ev_X5_noFar (by omega)) (by decide) rfl (Nat.le_of_ble_eq_true rfl) ?_
    refine ks_iret S dX5_echo_20 ?_
    exact qr_mk hR.ref (fun c hc => funext fun j => kq_up_c (by omega)) (by unfold A_echo; rw [← e39, hw4, if_pos (by decide)])
  · skip
    rw [hw4]
    refine ks_istore (n := 9) S dX5_echo_7 rfl (L' := fun y => [some (kr 38), some (ki a), some (ki b), some (ki d), some (ki y), none]) (Nat.le_of_ble_eq_true rfl) (fun _ => rfl) (fun v4_7 hv7 => ?_)
    obtain rfl : v4_7 = 0 := by omega
    refine ks_iload (n := 11) S dX5_echo_9 rfl rfl ?_
    refine ks_if_eq (n := 14) (tgt := 21) S dX5_echo_11 rfl rfl (fun h11 => ?_) (fun h11 => ?_)
    rotate_left
    · omega
    have hz : Zr (σ 39) := by rw [e39]; exact hM.2.2.1
    obtain ⟨k1, k2, k3⟩ := m_xy_ok ok ht4 1 1
    obtain ⟨j1, j2, j3⟩ := m_xy_ok ok ht4 0 1
    have hb := ht4.2.1
    have p2 := k1.2.2.2.2 b hb.1 (by omega)
    have p4 := j1.2.2.2.2 b hb.1 (by omega)
    unfold OkP at p2 p4
    have e2 : aP (m_xy (σ 39) a 1 b 1 d) b 2 = m_xy (σ 39) a 1 b 1 d (57 + 3 * b + 2) := rfl
    have e4 : aP (m_xy (σ 39) a 0 b 1 d) b 2 = m_xy (σ 39) a 0 b 1 d (57 + 3 * b + 2) := rfl
    refine ks_aload_n (n := 22) S dX5_echo_21 rfl rfl ?_
    refine ks_iload_n (n := 23) S dX5_echo_22 rfl rfl ?_
    refine ks_iconst (n := 24) S dX5_echo_23 rfl (by unfold iv; decide) ?_
    refine ks_iload_n (n := 25) S dX5_echo_24 rfl rfl ?_
    refine ks_iconst (n := 26) S dX5_echo_25 rfl (by unfold iv; decide) ?_
    refine ks_iload_n (n := 27) S dX5_echo_26 rfl rfl ?_
    refine kf_v5v (n := 30) S dX5_echo_27 rfl ml_X5_191 ym_X5_opensBoth (ev_X5_opensBoth ok hz hR.2.2.2.2.2.2.2.2.1 ht4) (by decide) rfl (Nat.le_of_ble_eq_true rfl) ?_
    refine ks_aload_n (n := 31) S dX5_echo_30 rfl rfl ?_
    refine ks_getr (n := 34) S dX5_echo_31 rfl fl_X5_13 rfl rfl ?_
    refine ks_iload_n (n := 35) S dX5_echo_34 rfl rfl ?_
    refine ks_iconst (n := 36) S dX5_echo_35 rfl (by unfold iv; decide) ?_
    refine kf_s2i (n := 39) S dX5_echo_36 rfl ml_X5_55 ym_X5_ofP (ev_X5_ofP (by omega) (by omega)) (by decide) (Nat.le_of_ble_eq_true rfl) ?_
    refine ks_iaload (n := 40) S dX5_echo_39 rfl rfl (by omega) ?_
    rw [sr_r]
    refine ks_istore (n := 42) S dX5_echo_40 rfl (L' := fun y => [some (kr 38), some (ki a), some (ki b), some (ki d), some (ki (0)), some (ki y)]) (Nat.le_of_ble_eq_true rfl) (fun _ => rfl) (fun v5_40 hv40 => ?_)
    subst v5_40
    refine ks_aload_n (n := 43) S dX5_echo_42 rfl rfl ?_
    refine ks_iload_n (n := 44) S dX5_echo_43 rfl rfl ?_
    refine ks_iconst (n := 45) S dX5_echo_44 rfl (by unfold iv; decide) ?_
    refine ks_iload_n (n := 46) S dX5_echo_45 rfl rfl ?_
    refine ks_iconst (n := 47) S dX5_echo_46 rfl (by unfold iv; decide) ?_
    refine ks_iload_n (n := 48) S dX5_echo_47 rfl rfl ?_
    refine kf_v5v (n := 51) S dX5_echo_48 rfl ml_X5_191 ym_X5_opensBoth (ev_X5_opensBoth (by rw [sr_n (by decide)]; exact ok) (by rw [sr_n (by decide)]; exact hz) (by rw [sr_r]; exact m_xy_z ok ht4 hz 1 1) (by rw [sr_n (by decide)]; exact ht4)) (by decide) rfl (Nat.le_of_ble_eq_true rfl) ?_
    rw [sr_n (show (39 : Nat) ≠ 40 by decide), sr_sr]
    refine ks_iload (n := 53) S dX5_echo_51 rfl rfl ?_
    refine ks_aload_n (n := 54) S dX5_echo_53 rfl rfl ?_
    refine ks_getr (n := 57) S dX5_echo_54 rfl fl_X5_13 rfl rfl ?_
    refine ks_iload_n (n := 58) S dX5_echo_57 rfl rfl ?_
    refine ks_iconst (n := 59) S dX5_echo_58 rfl (by unfold iv; decide) ?_
    refine kf_s2i (n := 62) S dX5_echo_59 rfl ml_X5_55 ym_X5_ofP (ev_X5_ofP (by omega) (by omega)) (by decide) (Nat.le_of_ble_eq_true rfl) ?_
    refine ks_iaload (n := 63) S dX5_echo_62 rfl rfl (by omega) ?_
    rw [sr_r]
    refine ks_isub (n := 64) S dX5_echo_63 rfl (by omega) ?_
    refine ks_iret S dX5_echo_64 ?_
    exact qr_t hR (FrQ.m (m_xy_z ok ht4 hz 0 1)) (by unfold A_echo m_ec; rw [← e39, hw4, if_neg (by decide)]; rfl)
end PUB4

