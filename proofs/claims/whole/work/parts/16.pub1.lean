section PUB1
variable {l : Launch} {σ M : KS}
def A_door (M : KS) (d w : Int) : Int × KS := if ¬ (0 ≤ d ∧ d < M 39 0) then (-1, rfM M (-1)) else if 0 ≤ w ∧ w ≤ 5 then (aD (M 39) d w, M) else if w = 6 then (m_gv (M 39) d, M) else (-2, rfM M (-2))
theorem pc_door {d w : Int} (hM : OkM M) (hC : RC σ M) : Ev l yX4_door cX4_door 3 (some .int) 3 64 [kr 0, ki d, ki w] σ (QC (A_door M d w) σ) := by
  have R := hC.1
  have ok := hM.1
  have n9 := ok.1
  have n6 := ok.2.1
  refine ev_intro ym_X4_door.1 (Nat.le_of_ble_eq_true rfl) (fun hv hσ K S => ?_)
  have hv := hv
  show K 0 [some (kr 0), some (ki d), some (ki w)] [] σ
  refine ks_aload_n (n := 1) S dX4_door_0 rfl rfl ?_
  refine ks_getr (n := 4) S dX4_door_1 rfl fl_X4_10 rfl rfl ?_
  refine ks_iload_n (n := 5) S dX4_door_4 rfl rfl ?_
  refine kf_v1z (n := 8) S dX4_door_5 rfl ml_X4_74 ym_X0_hasDoor (ev_X0_hasDoor kq_H1 R) (by decide) kq_H1.o (Nat.le_of_ble_eq_true rfl) ?_
  refine ks_if_ne (n := 11) (tgt := 17) S dX4_door_8 rfl rfl (fun h8 => ?_) (fun h8 => ?_)
  · skip
    simp only [bi_eq, bi_ne] at h8
    have od := ok.2.2.2.1 d (by omega) (by omega)
    obtain ⟨e1, e2, e3, e4, e5, e6⟩ := R.2.2.2.1 d (by omega) (by omega)
    refine ks_iload_n (n := 18) S dX4_door_17 rfl rfl ?_
    refine ks_table S (tdf := 129) [60, 70, 80, 90, 100, 110, 120] dX4_door_18 (by decide) (by decide) rfl (fun h18 => ?_) (And.intro (fun h18 => ?_) (And.intro (fun h18 => ?_) (And.intro (fun h18 => ?_) (And.intro (fun h18 => ?_) (And.intro (fun h18 => ?_) (And.intro (fun h18 => ?_) (And.intro (fun h18 => ?_) trivial)))))))
    · skip
      refine ks_aload_n (n := 130) S dX4_door_129 rfl rfl ?_
      refine ks_bipush (n := 132) S dX4_door_130 rfl (by unfold iv; decide) ?_
      refine kf_v1i (n := 135) S dX4_door_132 rfl ml_X4_51 ym_X4_refuse (ev_X4_refuse (by omega)) (by decide) rfl (Nat.le_of_ble_eq_true rfl) ?_
      refine ks_iret S dX4_door_135 ?_
      first | exact qc_r hC (by omega) (by unfold A_door; (repeat' split) <;> first | rfl | omega | (congr 1; omega)) | exact qc_a hC (by unfold A_door; (repeat' split) <;> first | rfl | omega | (congr 1; omega))
    · skip
      refine ks_aload_n (n := 61) S dX4_door_60 rfl rfl ?_
      refine ks_getr (n := 64) S dX4_door_61 rfl fl_X4_10 rfl rfl ?_
      refine ks_getr (n := 67) S dX4_door_64 rfl fl_X4_78 kq_H1.o rfl ?_
      refine ks_iload_n (n := 68) S dX4_door_67 rfl rfl ?_
      refine ks_iaload (n := 69) S dX4_door_68 rfl kq_H1.a1 (by omega) ?_
      refine ks_iret S dX4_door_69 ?_
      obtain rfl : w = 0 := by omega
      exact qc_a hC (by unfold A_door; (repeat' split) <;> first | rfl | omega | (congr 1; omega))
    · skip
      refine ks_aload_n (n := 71) S dX4_door_70 rfl rfl ?_
      refine ks_getr (n := 74) S dX4_door_71 rfl fl_X4_10 rfl rfl ?_
      refine ks_getr (n := 77) S dX4_door_74 rfl fl_X4_81 kq_H1.o rfl ?_
      refine ks_iload_n (n := 78) S dX4_door_77 rfl rfl ?_
      refine ks_iaload (n := 79) S dX4_door_78 rfl kq_H1.a2 (by omega) ?_
      refine ks_iret S dX4_door_79 ?_
      obtain rfl : w = 1 := by omega
      exact qc_a hC (by unfold A_door; (repeat' split) <;> first | rfl | omega | (congr 1; omega))
    · skip
      refine ks_aload_n (n := 81) S dX4_door_80 rfl rfl ?_
      refine ks_getr (n := 84) S dX4_door_81 rfl fl_X4_10 rfl rfl ?_
      refine ks_getr (n := 87) S dX4_door_84 rfl fl_X4_84 kq_H1.o rfl ?_
      refine ks_iload_n (n := 88) S dX4_door_87 rfl rfl ?_
      refine ks_iaload (n := 89) S dX4_door_88 rfl kq_H1.a3 (by omega) ?_
      refine ks_iret S dX4_door_89 ?_
      obtain rfl : w = 2 := by omega
      exact qc_a hC (by unfold A_door; (repeat' split) <;> first | rfl | omega | (congr 1; omega))
    · skip
      refine ks_aload_n (n := 91) S dX4_door_90 rfl rfl ?_
      refine ks_getr (n := 94) S dX4_door_91 rfl fl_X4_10 rfl rfl ?_
      refine ks_getr (n := 97) S dX4_door_94 rfl fl_X4_87 kq_H1.o rfl ?_
      refine ks_iload_n (n := 98) S dX4_door_97 rfl rfl ?_
      refine ks_iaload (n := 99) S dX4_door_98 rfl kq_H1.a4 (by omega) ?_
      refine ks_iret S dX4_door_99 ?_
      obtain rfl : w = 3 := by omega
      exact qc_a hC (by unfold A_door; (repeat' split) <;> first | rfl | omega | (congr 1; omega))
    · skip
      refine ks_aload_n (n := 101) S dX4_door_100 rfl rfl ?_
      refine ks_getr (n := 104) S dX4_door_101 rfl fl_X4_10 rfl rfl ?_
      refine ks_getr (n := 107) S dX4_door_104 rfl fl_X4_90 kq_H1.o rfl ?_
      refine ks_iload_n (n := 108) S dX4_door_107 rfl rfl ?_
      refine ks_iaload (n := 109) S dX4_door_108 rfl kq_H1.a5 (by omega) ?_
      refine ks_iret S dX4_door_109 ?_
      obtain rfl : w = 4 := by omega
      exact qc_a hC (by unfold A_door; (repeat' split) <;> first | rfl | omega | (congr 1; omega))
    · skip
      refine ks_aload_n (n := 111) S dX4_door_110 rfl rfl ?_
      refine ks_getr (n := 114) S dX4_door_111 rfl fl_X4_10 rfl rfl ?_
      refine ks_getr (n := 117) S dX4_door_114 rfl fl_X4_93 kq_H1.o rfl ?_
      refine ks_iload_n (n := 118) S dX4_door_117 rfl rfl ?_
      refine ks_iaload (n := 119) S dX4_door_118 rfl kq_H1.a6 (by omega) ?_
      refine ks_iret S dX4_door_119 ?_
      obtain rfl : w = 5 := by omega
      exact qc_a hC (by unfold A_door; (repeat' split) <;> first | rfl | omega | (congr 1; omega))
    · skip
      refine ks_aload_n (n := 121) S dX4_door_120 rfl rfl ?_
      refine ks_getr (n := 124) S dX4_door_121 rfl fl_X4_10 rfl rfl ?_
      refine ks_iload_n (n := 125) S dX4_door_124 rfl rfl ?_
      refine kf_v1i (n := 128) S dX4_door_125 rfl ml_X4_96 ym_X0_given (ev_X0_given kq_H1 R ok (by omega)) (by decide) kq_H1.o (Nat.le_of_ble_eq_true rfl) ?_
      refine ks_iret S dX4_door_128 ?_
      first | exact qc_r hC (by omega) (by unfold A_door; (repeat' split) <;> first | rfl | omega | (congr 1; omega)) | exact qc_a hC (by unfold A_door; (repeat' split) <;> first | rfl | omega | (congr 1; omega))
  · skip
    simp only [bi_eq, bi_ne] at h8
    refine ks_aload_n (n := 12) S dX4_door_11 rfl rfl ?_
    refine ks_iconst (n := 13) S dX4_door_12 rfl (by unfold iv; decide) ?_
    refine kf_v1i (n := 16) S dX4_door_13 rfl ml_X4_51 ym_X4_refuse (ev_X4_refuse (by omega)) (by decide) rfl (Nat.le_of_ble_eq_true rfl) ?_
    refine ks_iret S dX4_door_16 ?_
    first | exact qc_r hC (by omega) (by unfold A_door; (repeat' split) <;> first | rfl | omega | (congr 1; omega)) | exact qc_a hC (by unfold A_door; (repeat' split) <;> first | rfl | omega | (congr 1; omega))
theorem pr_door {d w : Int} (hM : OkM M) (hR : RR σ M) : Ev l yX5_door cX5_door 3 (some .int) 2 44 [kr 38, ki d, ki w] σ (QR (A_door M d w) σ) := by
  have e39 : σ 39 = M 39 := hR.1
  have ok : OkR (σ 39) := by rw [e39]; exact hM.1
  have n9 := ok.1
  have n6 := ok.2.1
  refine ev_intro ym_X5_door.1 (Nat.le_of_ble_eq_true rfl) (fun hv hσ K S => ?_)
  have hv := hv
  show K 0 [some (kr 38), some (ki d), some (ki w)] [] σ
  refine ks_aload_n (n := 1) S dX5_door_0 rfl rfl ?_
  refine ks_iload_n (n := 2) S dX5_door_1 rfl rfl ?_
  refine kf_v1z (n := 5) S dX5_door_2 rfl ml_X5_120 ym_X5_isDoor (ev_X5_isDoor n9) (by decide) rfl (Nat.le_of_ble_eq_true rfl) ?_
  refine ks_if_ne (n := 8) (tgt := 14) S dX5_door_5 rfl rfl (fun h5 => ?_) (fun h5 => ?_)
  · skip
    simp only [bi_eq, bi_ne] at h5
    have od := ok.2.2.2.1 d (by omega) (by omega)
    refine ks_iload_n (n := 15) S dX5_door_14 rfl rfl ?_
    refine ks_iconst (n := 16) S dX5_door_15 rfl (by unfold iv; decide) ?_
    refine ks_iconst (n := 17) S dX5_door_16 rfl (by unfold iv; decide) ?_
    refine kf_s3z (n := 20) S dX5_door_17 rfl ml_X5_44 ym_X5_isIn (ev_X5_isIn) (by decide) (Nat.le_of_ble_eq_true rfl) ?_
    refine ks_if_eq (n := 23) (tgt := 34) S dX5_door_20 rfl rfl (fun h20 => ?_) (fun h20 => ?_)
    · skip
      simp only [bi_eq, bi_ne] at h20
      refine ks_iload_n (n := 35) S dX5_door_34 rfl rfl ?_
      refine ks_bipush (n := 37) S dX5_door_35 rfl (by unfold iv; decide) ?_
      refine ks_icmp_ne (n := 40) (tgt := 51) S dX5_door_37 rfl rfl (fun h37 => ?_) (fun h37 => ?_)
      · skip
        refine ks_aload_n (n := 52) S dX5_door_51 rfl rfl ?_
        refine ks_bipush (n := 54) S dX5_door_52 rfl (by unfold iv; decide) ?_
        refine kf_v1i (n := 57) S dX5_door_54 rfl ml_X5_38 ym_X5_no (ev_X5_no (by omega)) (by decide) rfl (Nat.le_of_ble_eq_true rfl) ?_
        refine ks_iret S dX5_door_57 ?_
        first | exact qr_r hR (by unfold A_door; (try simp only [← e39]); (repeat' split) <;> first | rfl | omega | (congr 1; omega)) | exact qr_a hR (by unfold A_door; (try simp only [← e39]); (repeat' split) <;> first | rfl | omega | (congr 1; omega))
      · skip
        refine ks_aload_n (n := 41) S dX5_door_40 rfl rfl ?_
        refine ks_getr (n := 44) S dX5_door_41 rfl fl_X5_9 rfl rfl ?_
        refine ks_iload_n (n := 45) S dX5_door_44 rfl rfl ?_
        refine kf_s2i (n := 48) S dX5_door_45 rfl ml_X5_58 ym_X5_gives (ev_X5_gives rfl (by omega) od.2.1 od.2.2.2.2.2.1) (by decide) (Nat.le_of_ble_eq_true rfl) ?_
        refine ks_goto (n := 57) S dX5_door_48 rfl ?_
        refine ks_iret S dX5_door_57 ?_
        first | exact qr_r hR (by unfold A_door; (try simp only [← e39]); (repeat' split) <;> first | rfl | omega | (congr 1; omega)) | exact qr_a hR (by unfold A_door; (try simp only [← e39]); (repeat' split) <;> first | rfl | omega | (congr 1; omega))
    · skip
      simp only [bi_eq, bi_ne] at h20
      refine ks_aload_n (n := 24) S dX5_door_23 rfl rfl ?_
      refine ks_getr (n := 27) S dX5_door_24 rfl fl_X5_9 rfl rfl ?_
      refine ks_iload_n (n := 28) S dX5_door_27 rfl rfl ?_
      refine ks_iload_n (n := 29) S dX5_door_28 rfl rfl ?_
      refine kf_s2i (n := 32) S dX5_door_29 rfl ml_X5_48 ym_X5_ofD (ev_X5_ofD (by omega) (by omega)) (by decide) (Nat.le_of_ble_eq_true rfl) ?_
      refine ks_iaload (n := 33) S dX5_door_32 rfl rfl (by omega) ?_
      refine ks_iret S dX5_door_33 ?_
      first | exact qr_r hR (by unfold A_door; (try simp only [← e39]); (repeat' split) <;> first | rfl | omega | (congr 1; omega)) | exact qr_a hR (by unfold A_door; (try simp only [← e39]); (repeat' split) <;> first | rfl | omega | (congr 1; omega))
  · skip
    simp only [bi_eq, bi_ne] at h5
    refine ks_aload_n (n := 9) S dX5_door_8 rfl rfl ?_
    refine ks_iconst (n := 10) S dX5_door_9 rfl (by unfold iv; decide) ?_
    refine kf_v1i (n := 13) S dX5_door_10 rfl ml_X5_38 ym_X5_no (ev_X5_no (by omega)) (by decide) rfl (Nat.le_of_ble_eq_true rfl) ?_
    refine ks_iret S dX5_door_13 ?_
    first | exact qr_r hR (by unfold A_door; (try simp only [← e39]); (repeat' split) <;> first | rfl | omega | (congr 1; omega)) | exact qr_a hR (by unfold A_door; (try simp only [← e39]); (repeat' split) <;> first | rfl | omega | (congr 1; omega))
def A_person (M : KS) (p w : Int) : Int × KS := if ¬ (0 ≤ p ∧ p < M 39 1) then (-1, rfM M (-1)) else if 0 ≤ w ∧ w ≤ 2 then (aP (M 39) p w, M) else if w = 3 then (m_says (M 39) p, M) else (-2, rfM M (-2))
theorem pc_person {p w : Int} (hM : OkM M) (hC : RC σ M) : Ev l yX4_person cX4_person 3 (some .int) 1 21 [kr 0, ki p, ki w] σ (QC (A_person M p w) σ) := by
  have R := hC.1
  have ok := hM.1
  have n9 := ok.1
  have n6 := ok.2.1
  refine ev_intro ym_X4_person.1 (Nat.le_of_ble_eq_true rfl) (fun hv hσ K S => ?_)
  have hv := hv
  show K 0 [some (kr 0), some (ki p), some (ki w)] [] σ
  refine ks_aload_n (n := 1) S dX4_person_0 rfl rfl ?_
  refine ks_getr (n := 4) S dX4_person_1 rfl fl_X4_10 rfl rfl ?_
  refine ks_iload_n (n := 5) S dX4_person_4 rfl rfl ?_
  refine kf_v1z (n := 8) S dX4_person_5 rfl ml_X4_99 ym_X0_hasPerson (ev_X0_hasPerson kq_H1 R) (by decide) kq_H1.o (Nat.le_of_ble_eq_true rfl) ?_
  refine ks_if_ne (n := 11) (tgt := 17) S dX4_person_8 rfl rfl (fun h8 => ?_) (fun h8 => ?_)
  · skip
    simp only [bi_eq, bi_ne] at h8
    obtain ⟨e1, e2, e3⟩ := R.2.2.2.2 p (by omega) (by omega)
    refine ks_iload_n (n := 18) S dX4_person_17 rfl rfl ?_
    refine ks_table S (tdf := 87) [48, 58, 68, 78] dX4_person_18 (by decide) (by decide) rfl (fun h18 => ?_) (And.intro (fun h18 => ?_) (And.intro (fun h18 => ?_) (And.intro (fun h18 => ?_) (And.intro (fun h18 => ?_) trivial))))
    · skip
      refine ks_aload_n (n := 88) S dX4_person_87 rfl rfl ?_
      refine ks_bipush (n := 90) S dX4_person_88 rfl (by unfold iv; decide) ?_
      refine kf_v1i (n := 93) S dX4_person_90 rfl ml_X4_51 ym_X4_refuse (ev_X4_refuse (by omega)) (by decide) rfl (Nat.le_of_ble_eq_true rfl) ?_
      refine ks_iret S dX4_person_93 ?_
      first | exact qc_r hC (by omega) (by unfold A_person; (repeat' split) <;> first | rfl | omega | (congr 1; omega)) | exact qc_a hC (by unfold A_person; (repeat' split) <;> first | rfl | omega | (congr 1; omega))
    · skip
      refine ks_aload_n (n := 49) S dX4_person_48 rfl rfl ?_
      refine ks_getr (n := 52) S dX4_person_49 rfl fl_X4_10 rfl rfl ?_
      refine ks_getr (n := 55) S dX4_person_52 rfl fl_X4_102 kq_H1.o rfl ?_
      refine ks_iload_n (n := 56) S dX4_person_55 rfl rfl ?_
      refine ks_iaload (n := 57) S dX4_person_56 rfl kq_H1.a7 (by omega) ?_
      refine ks_iret S dX4_person_57 ?_
      obtain rfl : w = 0 := by omega
      exact qc_a hC (by unfold A_person; (repeat' split) <;> first | rfl | omega | (congr 1; omega))
    · skip
      refine ks_aload_n (n := 59) S dX4_person_58 rfl rfl ?_
      refine ks_getr (n := 62) S dX4_person_59 rfl fl_X4_10 rfl rfl ?_
      refine ks_getr (n := 65) S dX4_person_62 rfl fl_X4_105 kq_H1.o rfl ?_
      refine ks_iload_n (n := 66) S dX4_person_65 rfl rfl ?_
      refine ks_iaload (n := 67) S dX4_person_66 rfl kq_H1.a8 (by omega) ?_
      refine ks_iret S dX4_person_67 ?_
      obtain rfl : w = 1 := by omega
      exact qc_a hC (by unfold A_person; (repeat' split) <;> first | rfl | omega | (congr 1; omega))
    · skip
      refine ks_aload_n (n := 69) S dX4_person_68 rfl rfl ?_
      refine ks_getr (n := 72) S dX4_person_69 rfl fl_X4_10 rfl rfl ?_
      refine ks_getr (n := 75) S dX4_person_72 rfl fl_X4_108 kq_H1.o rfl ?_
      refine ks_iload_n (n := 76) S dX4_person_75 rfl rfl ?_
      refine ks_iaload (n := 77) S dX4_person_76 rfl kq_H1.a9 (by omega) ?_
      refine ks_iret S dX4_person_77 ?_
      obtain rfl : w = 2 := by omega
      exact qc_a hC (by unfold A_person; (repeat' split) <;> first | rfl | omega | (congr 1; omega))
    · skip
      refine ks_aload_n (n := 79) S dX4_person_78 rfl rfl ?_
      refine ks_getr (n := 82) S dX4_person_79 rfl fl_X4_10 rfl rfl ?_
      refine ks_iload_n (n := 83) S dX4_person_82 rfl rfl ?_
      refine kf_v1i (n := 86) S dX4_person_83 rfl ml_X4_111 ym_X0_said (ev_X0_said kq_H1 R ok (by omega)) (by decide) kq_H1.o (Nat.le_of_ble_eq_true rfl) ?_
      refine ks_iret S dX4_person_86 ?_
      first | exact qc_r hC (by omega) (by unfold A_person; (repeat' split) <;> first | rfl | omega | (congr 1; omega)) | exact qc_a hC (by unfold A_person; (repeat' split) <;> first | rfl | omega | (congr 1; omega))
  · skip
    simp only [bi_eq, bi_ne] at h8
    refine ks_aload_n (n := 12) S dX4_person_11 rfl rfl ?_
    refine ks_iconst (n := 13) S dX4_person_12 rfl (by unfold iv; decide) ?_
    refine kf_v1i (n := 16) S dX4_person_13 rfl ml_X4_51 ym_X4_refuse (ev_X4_refuse (by omega)) (by decide) rfl (Nat.le_of_ble_eq_true rfl) ?_
    refine ks_iret S dX4_person_16 ?_
    first | exact qc_r hC (by omega) (by unfold A_person; (repeat' split) <;> first | rfl | omega | (congr 1; omega)) | exact qc_a hC (by unfold A_person; (repeat' split) <;> first | rfl | omega | (congr 1; omega))
theorem pr_person {p w : Int} (hM : OkM M) (hR : RR σ M) : Ev l yX5_person cX5_person 3 (some .int) 2 43 [kr 38, ki p, ki w] σ (QR (A_person M p w) σ) := by
  have e39 : σ 39 = M 39 := hR.1
  have ok : OkR (σ 39) := by rw [e39]; exact hM.1
  have n9 := ok.1
  have n6 := ok.2.1
  refine ev_intro ym_X5_person.1 (Nat.le_of_ble_eq_true rfl) (fun hv hσ K S => ?_)
  have hv := hv
  show K 0 [some (kr 38), some (ki p), some (ki w)] [] σ
  refine ks_aload_n (n := 1) S dX5_person_0 rfl rfl ?_
  refine ks_iload_n (n := 2) S dX5_person_1 rfl rfl ?_
  refine kf_v1z (n := 5) S dX5_person_2 rfl ml_X5_117 ym_X5_isPerson (ev_X5_isPerson n6) (by decide) rfl (Nat.le_of_ble_eq_true rfl) ?_
  refine ks_if_ne (n := 8) (tgt := 14) S dX5_person_5 rfl rfl (fun h5 => ?_) (fun h5 => ?_)
  · skip
    simp only [bi_eq, bi_ne] at h5
    have op := ok.2.2.2.2 p (by omega) (by omega)
    refine ks_iload_n (n := 15) S dX5_person_14 rfl rfl ?_
    refine ks_iconst (n := 16) S dX5_person_15 rfl (by unfold iv; decide) ?_
    refine ks_iconst (n := 17) S dX5_person_16 rfl (by unfold iv; decide) ?_
    refine kf_s3z (n := 20) S dX5_person_17 rfl ml_X5_44 ym_X5_isIn (ev_X5_isIn) (by decide) (Nat.le_of_ble_eq_true rfl) ?_
    refine ks_if_eq (n := 23) (tgt := 34) S dX5_person_20 rfl rfl (fun h20 => ?_) (fun h20 => ?_)
    · skip
      simp only [bi_eq, bi_ne] at h20
      refine ks_iload_n (n := 35) S dX5_person_34 rfl rfl ?_
      refine ks_iconst (n := 36) S dX5_person_35 rfl (by unfold iv; decide) ?_
      refine ks_icmp_ne (n := 39) (tgt := 50) S dX5_person_36 rfl rfl (fun h36 => ?_) (fun h36 => ?_)
      · skip
        refine ks_aload_n (n := 51) S dX5_person_50 rfl rfl ?_
        refine ks_bipush (n := 53) S dX5_person_51 rfl (by unfold iv; decide) ?_
        refine kf_v1i (n := 56) S dX5_person_53 rfl ml_X5_38 ym_X5_no (ev_X5_no (by omega)) (by decide) rfl (Nat.le_of_ble_eq_true rfl) ?_
        refine ks_iret S dX5_person_56 ?_
        first | exact qr_r hR (by unfold A_person; (try simp only [← e39]); (repeat' split) <;> first | rfl | omega | (congr 1; omega)) | exact qr_a hR (by unfold A_person; (try simp only [← e39]); (repeat' split) <;> first | rfl | omega | (congr 1; omega))
      · skip
        refine ks_aload_n (n := 40) S dX5_person_39 rfl rfl ?_
        refine ks_getr (n := 43) S dX5_person_40 rfl fl_X5_9 rfl rfl ?_
        refine ks_iload_n (n := 44) S dX5_person_43 rfl rfl ?_
        refine kf_s2i (n := 47) S dX5_person_44 rfl ml_X5_62 ym_X5_says (ev_X5_says rfl (by omega) op.1 op.2.2) (by decide) (Nat.le_of_ble_eq_true rfl) ?_
        refine ks_goto (n := 56) S dX5_person_47 rfl ?_
        refine ks_iret S dX5_person_56 ?_
        first | exact qr_r hR (by unfold A_person; (try simp only [← e39]); (repeat' split) <;> first | rfl | omega | (congr 1; omega)) | exact qr_a hR (by unfold A_person; (try simp only [← e39]); (repeat' split) <;> first | rfl | omega | (congr 1; omega))
    · skip
      simp only [bi_eq, bi_ne] at h20
      refine ks_aload_n (n := 24) S dX5_person_23 rfl rfl ?_
      refine ks_getr (n := 27) S dX5_person_24 rfl fl_X5_9 rfl rfl ?_
      refine ks_iload_n (n := 28) S dX5_person_27 rfl rfl ?_
      refine ks_iload_n (n := 29) S dX5_person_28 rfl rfl ?_
      refine kf_s2i (n := 32) S dX5_person_29 rfl ml_X5_55 ym_X5_ofP (ev_X5_ofP (by omega) (by omega)) (by decide) (Nat.le_of_ble_eq_true rfl) ?_
      refine ks_iaload (n := 33) S dX5_person_32 rfl rfl (by omega) ?_
      refine ks_iret S dX5_person_33 ?_
      first | exact qr_r hR (by unfold A_person; (try simp only [← e39]); (repeat' split) <;> first | rfl | omega | (congr 1; omega)) | exact qr_a hR (by unfold A_person; (try simp only [← e39]); (repeat' split) <;> first | rfl | omega | (congr 1; omega))
  · skip
    simp only [bi_eq, bi_ne] at h5
    refine ks_aload_n (n := 9) S dX5_person_8 rfl rfl ?_
    refine ks_iconst (n := 10) S dX5_person_9 rfl (by unfold iv; decide) ?_
    refine kf_v1i (n := 13) S dX5_person_10 rfl ml_X5_38 ym_X5_no (ev_X5_no (by omega)) (by decide) rfl (Nat.le_of_ble_eq_true rfl) ?_
    refine ks_iret S dX5_person_13 ?_
    first | exact qr_r hR (by unfold A_person; (try simp only [← e39]); (repeat' split) <;> first | rfl | omega | (congr 1; omega)) | exact qr_a hR (by unfold A_person; (try simp only [← e39]); (repeat' split) <;> first | rfl | omega | (congr 1; omega))
def A_opens (M : KS) (p d : Int) : Int × KS := if ¬ ((0 ≤ p ∧ p < M 39 1) ∧ (0 ≤ d ∧ d < M 39 0)) then (-1, rfM M (-1)) else if ¬ m_of (M 39) d (aP (M 39) p 1) then (-3, rfM M (-3)) else (aP (m_open (M 39) p d) p 2, mH M (m_open (M 39) p d))
theorem pc_opens {p d : Int} (hM : OkM M) (hC : RC σ M) : Ev l yX4_opens cX4_opens 3 (some .int) 3 66 [kr 0, ki p, ki d] σ (QC (A_opens M p d) σ) := by
  have R := hC.1
  have ok := hM.1
  have n9 := ok.1
  have n6 := ok.2.1
  refine ev_intro ym_X4_opens.1 (Nat.le_of_ble_eq_true rfl) (fun hv hσ K S => ?_)
  have hv := hv
  show K 0 [some (kr 0), some (ki p), some (ki d)] [] σ
  refine ks_aload_n (n := 1) S dX4_opens_0 rfl rfl ?_
  refine ks_getr (n := 4) S dX4_opens_1 rfl fl_X4_10 rfl rfl ?_
  refine ks_iload_n (n := 5) S dX4_opens_4 rfl rfl ?_
  refine kf_v1z (n := 8) S dX4_opens_5 rfl ml_X4_99 ym_X0_hasPerson (ev_X0_hasPerson kq_H1 R) (by decide) kq_H1.o (Nat.le_of_ble_eq_true rfl) ?_
  refine ks_if_eq (n := 11) (tgt := 22) S dX4_opens_8 rfl rfl (fun h8 => ?_) (fun h8 => ?_)
  · skip
    simp only [bi_eq, bi_ne] at h8
    refine ks_aload_n (n := 23) S dX4_opens_22 rfl rfl ?_
    refine ks_iconst (n := 24) S dX4_opens_23 rfl (by unfold iv; decide) ?_
    refine kf_v1i (n := 27) S dX4_opens_24 rfl ml_X4_51 ym_X4_refuse (ev_X4_refuse (by omega)) (by decide) rfl (Nat.le_of_ble_eq_true rfl) ?_
    refine ks_iret S dX4_opens_27 ?_
    first | exact qc_r hC (by omega) (by unfold A_opens; (repeat' split) <;> first | rfl | omega | (congr 1; omega)) | exact qc_a hC (by unfold A_opens; (repeat' split) <;> first | rfl | omega | (congr 1; omega))
  · skip
    simp only [bi_eq, bi_ne] at h8
    refine ks_aload_n (n := 12) S dX4_opens_11 rfl rfl ?_
    refine ks_getr (n := 15) S dX4_opens_12 rfl fl_X4_10 rfl rfl ?_
    refine ks_iload_n (n := 16) S dX4_opens_15 rfl rfl ?_
    refine kf_v1z (n := 19) S dX4_opens_16 rfl ml_X4_74 ym_X0_hasDoor (ev_X0_hasDoor kq_H1 R) (by decide) kq_H1.o (Nat.le_of_ble_eq_true rfl) ?_
    refine ks_if_ne (n := 22) (tgt := 28) S dX4_opens_19 rfl rfl (fun h19 => ?_) (fun h19 => ?_)
    · skip
      simp only [bi_eq, bi_ne] at h19
      refine ks_aload_n (n := 29) S dX4_opens_28 rfl rfl ?_
      refine ks_getr (n := 32) S dX4_opens_29 rfl fl_X4_10 rfl rfl ?_
      refine ks_iload_n (n := 33) S dX4_opens_32 rfl rfl ?_
      refine ks_iload_n (n := 34) S dX4_opens_33 rfl rfl ?_
      refine kf_v2z (n := 37) S dX4_opens_34 rfl ml_X4_114 ym_X0_canOpen (ev_X0_canOpen kq_H1 R ok (by omega) (by omega)) (by decide) kq_H1.o (Nat.le_of_ble_eq_true rfl) ?_
      refine ks_if_ne (n := 40) (tgt := 47) S dX4_opens_37 rfl rfl (fun h37 => ?_) (fun h37 => ?_)
      · skip
        simp only [bi_eq, bi_ne] at h37
        refine ks_aload_n (n := 48) S dX4_opens_47 rfl rfl ?_
        refine ks_getr (n := 51) S dX4_opens_48 rfl fl_X4_10 rfl rfl ?_
        refine ks_iload_n (n := 52) S dX4_opens_51 rfl rfl ?_
        refine ks_iload_n (n := 53) S dX4_opens_52 rfl rfl ?_
        refine ks_v2v (n := 56) S dX4_opens_53 rfl ml_X4_118 ym_X0_open (ev_X0_open kq_H1 R ok (by omega) (by omega) h37) (by decide) kq_H1.o (Nat.le_of_ble_eq_true rfl) (fun τ53 q53 => ?_)
        obtain ⟨-, R2, F2⟩ := q53
        have z := m_open_012 (a := M 39) (p := p) (d := d) (by omega) (by omega)
        obtain ⟨e1, e2, e3⟩ := R2.2.2.2.2 p (by omega) (by omega)
        refine ks_aload_n (n := 57) S dX4_opens_56 rfl rfl ?_
        refine ks_getr (n := 60) S dX4_opens_57 rfl fl_X4_10 rfl rfl ?_
        refine ks_getr (n := 63) S dX4_opens_60 rfl fl_X4_108 kq_H1.o rfl ?_
        refine ks_iload_n (n := 64) S dX4_opens_63 rfl rfl ?_
        refine ks_iaload (n := 65) S dX4_opens_64 rfl kq_H1.a9 (by omega) ?_
        refine ks_iret S dX4_opens_65 ?_
        exact qc_h hC F2 R2 (by unfold A_opens; rw [if_neg (by omega), if_neg (fun h => h h37), e3])
      · skip
        simp only [bi_eq, bi_ne] at h37
        refine ks_aload_n (n := 41) S dX4_opens_40 rfl rfl ?_
        refine ks_bipush (n := 43) S dX4_opens_41 rfl (by unfold iv; decide) ?_
        refine kf_v1i (n := 46) S dX4_opens_43 rfl ml_X4_51 ym_X4_refuse (ev_X4_refuse (by omega)) (by decide) rfl (Nat.le_of_ble_eq_true rfl) ?_
        refine ks_iret S dX4_opens_46 ?_
        first | exact qc_r hC (by omega) (by unfold A_opens; (repeat' split) <;> first | rfl | omega | (congr 1; omega)) | exact qc_a hC (by unfold A_opens; (repeat' split) <;> first | rfl | omega | (congr 1; omega))
    · skip
      simp only [bi_eq, bi_ne] at h19
      refine ks_aload_n (n := 23) S dX4_opens_22 rfl rfl ?_
      refine ks_iconst (n := 24) S dX4_opens_23 rfl (by unfold iv; decide) ?_
      refine kf_v1i (n := 27) S dX4_opens_24 rfl ml_X4_51 ym_X4_refuse (ev_X4_refuse (by omega)) (by decide) rfl (Nat.le_of_ble_eq_true rfl) ?_
      refine ks_iret S dX4_opens_27 ?_
      first | exact qc_r hC (by omega) (by unfold A_opens; (repeat' split) <;> first | rfl | omega | (congr 1; omega)) | exact qc_a hC (by unfold A_opens; (repeat' split) <;> first | rfl | omega | (congr 1; omega))
theorem pr_opens {p d : Int} (hM : OkM M) (hR : RR σ M) : Ev l yX5_opens cX5_opens 3 (some .int) 3 66 [kr 38, ki p, ki d] σ (QR (A_opens M p d) σ) := by
  have e39 : σ 39 = M 39 := hR.1
  have ok : OkR (σ 39) := by rw [e39]; exact hM.1
  have n9 := ok.1
  have n6 := ok.2.1
  refine ev_intro ym_X5_opens.1 (Nat.le_of_ble_eq_true rfl) (fun hv hσ K S => ?_)
  have hv := hv
  show K 0 [some (kr 38), some (ki p), some (ki d)] [] σ
  refine ks_aload_n (n := 1) S dX5_opens_0 rfl rfl ?_
  refine ks_iload_n (n := 2) S dX5_opens_1 rfl rfl ?_
  refine kf_v1z (n := 5) S dX5_opens_2 rfl ml_X5_117 ym_X5_isPerson (ev_X5_isPerson n6) (by decide) rfl (Nat.le_of_ble_eq_true rfl) ?_
  refine ks_if_eq (n := 8) (tgt := 16) S dX5_opens_5 rfl rfl (fun h5 => ?_) (fun h5 => ?_)
  · skip
    simp only [bi_eq, bi_ne] at h5
    refine ks_aload_n (n := 17) S dX5_opens_16 rfl rfl ?_
    refine ks_iconst (n := 18) S dX5_opens_17 rfl (by unfold iv; decide) ?_
    refine kf_v1i (n := 21) S dX5_opens_18 rfl ml_X5_38 ym_X5_no (ev_X5_no (by omega)) (by decide) rfl (Nat.le_of_ble_eq_true rfl) ?_
    refine ks_iret S dX5_opens_21 ?_
    first | exact qr_r hR (by unfold A_opens; (try simp only [← e39]); (repeat' split) <;> first | rfl | omega | (congr 1; omega)) | exact qr_a hR (by unfold A_opens; (try simp only [← e39]); (repeat' split) <;> first | rfl | omega | (congr 1; omega))
  · skip
    simp only [bi_eq, bi_ne] at h5
    refine ks_aload_n (n := 9) S dX5_opens_8 rfl rfl ?_
    refine ks_iload_n (n := 10) S dX5_opens_9 rfl rfl ?_
    refine kf_v1z (n := 13) S dX5_opens_10 rfl ml_X5_120 ym_X5_isDoor (ev_X5_isDoor n9) (by decide) rfl (Nat.le_of_ble_eq_true rfl) ?_
    refine ks_if_ne (n := 16) (tgt := 22) S dX5_opens_13 rfl rfl (fun h13 => ?_) (fun h13 => ?_)
    · skip
      simp only [bi_eq, bi_ne] at h13
      have eP : aP (σ 39) p 1 = σ 39 (57 + 3 * p + 1) := rfl
      refine ks_aload_n (n := 23) S dX5_opens_22 rfl rfl ?_
      refine ks_getr (n := 26) S dX5_opens_23 rfl fl_X5_9 rfl rfl ?_
      refine ks_iload_n (n := 27) S dX5_opens_26 rfl rfl ?_
      refine ks_aload_n (n := 28) S dX5_opens_27 rfl rfl ?_
      refine ks_getr (n := 31) S dX5_opens_28 rfl fl_X5_9 rfl rfl ?_
      refine ks_iload_n (n := 32) S dX5_opens_31 rfl rfl ?_
      refine ks_iconst (n := 33) S dX5_opens_32 rfl (by unfold iv; decide) ?_
      refine kf_s2i (n := 36) S dX5_opens_33 rfl ml_X5_55 ym_X5_ofP (ev_X5_ofP (by omega) (by omega)) (by decide) (Nat.le_of_ble_eq_true rfl) ?_
      refine ks_iaload (n := 37) S dX5_opens_36 rfl rfl (by omega) ?_
      refine kf_s3z (n := 40) S dX5_opens_37 rfl ml_X5_123 ym_X5_isOf (ev_X5_isOf rfl (by omega)) (by decide) (Nat.le_of_ble_eq_true rfl) ?_
      refine ks_if_ne (n := 43) (tgt := 50) S dX5_opens_40 rfl rfl (fun h40 => ?_) (fun h40 => ?_)
      · skip
        simp only [bi_eq, bi_ne] at h40
        refine ks_aload_n (n := 51) S dX5_opens_50 rfl rfl ?_
        refine ks_getr (n := 54) S dX5_opens_51 rfl fl_X5_9 rfl rfl ?_
        refine ks_iload_n (n := 55) S dX5_opens_54 rfl rfl ?_
        refine ks_iload_n (n := 56) S dX5_opens_55 rfl rfl ?_
        refine kf_s3v (n := 59) S dX5_opens_56 rfl ml_X5_127 ym_X5_opensIn (ev_X5_opensIn rfl ok (by omega) (by omega)) (by decide) (Nat.le_of_ble_eq_true rfl) ?_
        refine ks_aload_n (n := 60) S dX5_opens_59 rfl rfl ?_
        refine ks_getr (n := 63) S dX5_opens_60 rfl fl_X5_9 rfl rfl ?_
        refine ks_iload_n (n := 64) S dX5_opens_63 rfl rfl ?_
        refine ks_iconst (n := 65) S dX5_opens_64 rfl (by unfold iv; decide) ?_
        refine kf_s2i (n := 68) S dX5_opens_65 rfl ml_X5_55 ym_X5_ofP (ev_X5_ofP (by omega) (by omega)) (by decide) (Nat.le_of_ble_eq_true rfl) ?_
        refine ks_iaload (n := 69) S dX5_opens_68 rfl rfl (by omega) ?_
        refine ks_iret S dX5_opens_69 ?_
        rw [sr_r]
        exact qr_h hR (by unfold A_opens; simp only [← e39]; rw [if_neg (by omega), if_neg (fun h => h h40)]; rfl)
      · skip
        simp only [bi_eq, bi_ne] at h40
        refine ks_aload_n (n := 44) S dX5_opens_43 rfl rfl ?_
        refine ks_bipush (n := 46) S dX5_opens_44 rfl (by unfold iv; decide) ?_
        refine kf_v1i (n := 49) S dX5_opens_46 rfl ml_X5_38 ym_X5_no (ev_X5_no (by omega)) (by decide) rfl (Nat.le_of_ble_eq_true rfl) ?_
        refine ks_iret S dX5_opens_49 ?_
        first | exact qr_r hR (by unfold A_opens; (try simp only [← e39]); (repeat' split) <;> first | rfl | omega | (congr 1; omega)) | exact qr_a hR (by unfold A_opens; (try simp only [← e39]); (repeat' split) <;> first | rfl | omega | (congr 1; omega))
    · skip
      simp only [bi_eq, bi_ne] at h13
      refine ks_aload_n (n := 17) S dX5_opens_16 rfl rfl ?_
      refine ks_iconst (n := 18) S dX5_opens_17 rfl (by unfold iv; decide) ?_
      refine kf_v1i (n := 21) S dX5_opens_18 rfl ml_X5_38 ym_X5_no (ev_X5_no (by omega)) (by decide) rfl (Nat.le_of_ble_eq_true rfl) ?_
      refine ks_iret S dX5_opens_21 ?_
      first | exact qr_r hR (by unfold A_opens; (try simp only [← e39]); (repeat' split) <;> first | rfl | omega | (congr 1; omega)) | exact qr_a hR (by unfold A_opens; (try simp only [← e39]); (repeat' split) <;> first | rfl | omega | (congr 1; omega))
def A_quarrels (M : KS) (d v p : Int) : Int × KS := if ¬ ((0 ≤ d ∧ d < M 39 0) ∧ (0 ≤ p ∧ p < M 39 1)) then (-1, rfM M (-1)) else if v < 0 then (-4, rfM M (-4)) else if 99 < v then (-6, rfM M (-6)) else (aD (M 39) d 4, mH M (m_heats (M 39) d v p))
theorem fill_H {c : Nat} {a : RW} {d v p : Int} (R : RepH σ c a) (hd : 0 ≤ d ∧ d < 9) (hv : 0 ≤ v ∧ v ≤ 99) : RepH (kq_up (kq_up σ (c + 5) d v) (c + 6) d (if 0 < v then p else 9)) c (m_heats a d v p) := by
  unfold m_heats
  rw [show m_held v = v by unfold m_held; (repeat' split) <;> omega]
  exact (R.uD4 hd).uD5 hd
theorem fill_F {c : Nat} {d v w : Int} : FrH c σ (kq_up (kq_up σ (c + 5) d v) (c + 6) d w) := (FrH.rf.up (by omega) (by omega)).up (by omega) (by omega)
theorem pc_quarrels {d v p : Int} (hM : OkM M) (hC : RC σ M) : Ev l yX4_quarrels cX4_quarrels 6 (some .int) 1 23 [kr 0, ki d, ki v, ki p] σ (QC (A_quarrels M d v p) σ) := by
  have R := hC.1
  have ok := hM.1
  have n9 := ok.1
  have n6 := ok.2.1
  refine ev_intro ym_X4_quarrels.1 (Nat.le_of_ble_eq_true rfl) (fun hv hσ K S => ?_)
  have hv := hv
  show K 0 [some (kr 0), some (ki d), some (ki v), some (ki p), none, none] [] σ
  refine ks_aload_n (n := 1) S dX4_quarrels_0 rfl rfl ?_
  refine ks_getr (n := 4) S dX4_quarrels_1 rfl fl_X4_10 rfl rfl ?_
  refine ks_iload_n (n := 5) S dX4_quarrels_4 rfl rfl ?_
  refine kf_v1z (n := 8) S dX4_quarrels_5 rfl ml_X4_74 ym_X0_hasDoor (ev_X0_hasDoor kq_H1 R) (by decide) kq_H1.o (Nat.le_of_ble_eq_true rfl) ?_
  refine ks_if_eq (n := 11) (tgt := 22) S dX4_quarrels_8 rfl rfl (fun h8 => ?_) (fun h8 => ?_)
  · skip
    simp only [bi_eq, bi_ne] at h8
    refine ks_aload_n (n := 23) S dX4_quarrels_22 rfl rfl ?_
    refine ks_iconst (n := 24) S dX4_quarrels_23 rfl (by unfold iv; decide) ?_
    refine kf_v1i (n := 27) S dX4_quarrels_24 rfl ml_X4_51 ym_X4_refuse (ev_X4_refuse (by omega)) (by decide) rfl (Nat.le_of_ble_eq_true rfl) ?_
    refine ks_iret S dX4_quarrels_27 ?_
    first | exact qc_r hC (by omega) (by unfold A_quarrels; (repeat' split) <;> first | rfl | omega | (congr 1; omega)) | exact qc_a hC (by unfold A_quarrels; (repeat' split) <;> first | rfl | omega | (congr 1; omega))
  · skip
    simp only [bi_eq, bi_ne] at h8
    refine ks_aload_n (n := 12) S dX4_quarrels_11 rfl rfl ?_
    refine ks_getr (n := 15) S dX4_quarrels_12 rfl fl_X4_10 rfl rfl ?_
    refine ks_iload_n (n := 16) S dX4_quarrels_15 rfl rfl ?_
    refine kf_v1z (n := 19) S dX4_quarrels_16 rfl ml_X4_99 ym_X0_hasPerson (ev_X0_hasPerson kq_H1 R) (by decide) kq_H1.o (Nat.le_of_ble_eq_true rfl) ?_
    refine ks_if_ne (n := 22) (tgt := 28) S dX4_quarrels_19 rfl rfl (fun h19 => ?_) (fun h19 => ?_)
    · skip
      simp only [bi_eq, bi_ne] at h19
      obtain ⟨e1, e2, e3, e4, e5, e6⟩ := R.2.2.2.1 d (by omega) (by omega)
      refine ks_iload_n (n := 29) S dX4_quarrels_28 rfl rfl ?_
      refine ks_iconst (n := 30) S dX4_quarrels_29 rfl (by unfold iv; decide) ?_
      refine ks_bipush (n := 32) S dX4_quarrels_30 rfl (by unfold iv; decide) ?_
      refine kf_s3i (n := 35) S dX4_quarrels_32 rfl ml_X4_122 ym_X4_outside (ev_X4_outside) (by decide) (Nat.le_of_ble_eq_true rfl) ?_
      rcases m_out v 0 99 with ⟨hc32, hw32⟩ | ⟨hc32, hd32, hw32⟩ | ⟨hc32, hd32, hw32⟩
      · skip
        rw [hw32]
        refine ks_istore (n := 37) S dX4_quarrels_35 rfl (L' := fun y => [some (kr 0), some (ki d), some (ki v), some (ki p), some (ki y), none]) (Nat.le_of_ble_eq_true rfl) (fun _ => rfl) (fun v4_35 hv35 => ?_)
        subst hv35
        refine ks_iload (n := 39) S dX4_quarrels_37 rfl rfl ?_
        refine ks_if_ge (n := 42) (tgt := 49) S dX4_quarrels_39 rfl rfl (fun h39 => ?_) (fun h39 => ?_)
        · omega
        refine ks_aload_n (n := 43) S dX4_quarrels_42 rfl rfl ?_
        refine ks_iload (n := 45) S dX4_quarrels_43 rfl rfl ?_
        refine kf_v1i (n := 48) S dX4_quarrels_45 rfl ml_X4_51 ym_X4_refuse (ev_X4_refuse (by omega)) (by decide) rfl (Nat.le_of_ble_eq_true rfl) ?_
        refine ks_iret S dX4_quarrels_48 ?_
        first | exact qc_r hC (by omega) (by unfold A_quarrels; (repeat' split) <;> first | rfl | omega | (congr 1; omega)) | exact qc_a hC (by unfold A_quarrels; (repeat' split) <;> first | rfl | omega | (congr 1; omega))
      · skip
        rw [hw32]
        refine ks_istore (n := 37) S dX4_quarrels_35 rfl (L' := fun y => [some (kr 0), some (ki d), some (ki v), some (ki p), some (ki y), none]) (Nat.le_of_ble_eq_true rfl) (fun _ => rfl) (fun v4_35 hv35 => ?_)
        subst hv35
        refine ks_iload (n := 39) S dX4_quarrels_37 rfl rfl ?_
        refine ks_if_ge (n := 42) (tgt := 49) S dX4_quarrels_39 rfl rfl (fun h39 => ?_) (fun h39 => ?_)
        · omega
        refine ks_aload_n (n := 43) S dX4_quarrels_42 rfl rfl ?_
        refine ks_iload (n := 45) S dX4_quarrels_43 rfl rfl ?_
        refine kf_v1i (n := 48) S dX4_quarrels_45 rfl ml_X4_51 ym_X4_refuse (ev_X4_refuse (by omega)) (by decide) rfl (Nat.le_of_ble_eq_true rfl) ?_
        refine ks_iret S dX4_quarrels_48 ?_
        first | exact qc_r hC (by omega) (by unfold A_quarrels; (repeat' split) <;> first | rfl | omega | (congr 1; omega)) | exact qc_a hC (by unfold A_quarrels; (repeat' split) <;> first | rfl | omega | (congr 1; omega))
      · skip
        rw [hw32]
        refine ks_istore (n := 37) S dX4_quarrels_35 rfl (L' := fun y => [some (kr 0), some (ki d), some (ki v), some (ki p), some (ki y), none]) (Nat.le_of_ble_eq_true rfl) (fun _ => rfl) (fun v4_35 hv35 => ?_)
        subst hv35
        refine ks_iload (n := 39) S dX4_quarrels_37 rfl rfl ?_
        refine ks_if_ge (n := 42) (tgt := 49) S dX4_quarrels_39 rfl rfl (fun h39 => ?_) (fun h39 => ?_)
        rotate_left
        · omega
        refine ks_aload_n (n := 50) S dX4_quarrels_49 rfl rfl ?_
        refine ks_getr (n := 53) S dX4_quarrels_50 rfl fl_X4_10 rfl rfl ?_
        refine ks_getr (n := 56) S dX4_quarrels_53 rfl fl_X4_90 kq_H1.o rfl ?_
        refine ks_iload_n (n := 57) S dX4_quarrels_56 rfl rfl ?_
        refine ks_iaload (n := 58) S dX4_quarrels_57 rfl kq_H1.a5 (by omega) ?_
        refine ks_istore (n := 60) S dX4_quarrels_58 rfl (L' := fun y => [some (kr 0), some (ki d), some (ki v), some (ki p), some (ki _), some (ki y)]) (Nat.le_of_ble_eq_true rfl) (fun _ => rfl) (fun v5_58 hv58 => ?_)
        subst hv58
        refine ks_aload_n (n := 61) S dX4_quarrels_60 rfl rfl ?_
        refine ks_getr (n := 64) S dX4_quarrels_61 rfl fl_X4_10 rfl rfl ?_
        refine ks_iload_n (n := 65) S dX4_quarrels_64 rfl rfl ?_
        refine ks_iload_n (n := 66) S dX4_quarrels_65 rfl rfl ?_
        refine ks_iload_n (n := 67) S dX4_quarrels_66 rfl rfl ?_
        refine kf_v3v (n := 70) S dX4_quarrels_67 rfl ml_X4_126 ym_X0_fill (ev_X0_fill kq_H1 (by omega)) (by decide) kq_H1.o (Nat.le_of_ble_eq_true rfl) ?_
        refine ks_iload (n := 72) S dX4_quarrels_70 rfl rfl ?_
        refine ks_iret S dX4_quarrels_72 ?_
        exact qc_h hC fill_F (fill_H R (by omega) (by omega)) (by unfold A_quarrels; rw [if_neg (by omega), if_neg (by omega), if_neg (by omega), e5])
    · skip
      simp only [bi_eq, bi_ne] at h19
      refine ks_aload_n (n := 23) S dX4_quarrels_22 rfl rfl ?_
      refine ks_iconst (n := 24) S dX4_quarrels_23 rfl (by unfold iv; decide) ?_
      refine kf_v1i (n := 27) S dX4_quarrels_24 rfl ml_X4_51 ym_X4_refuse (ev_X4_refuse (by omega)) (by decide) rfl (Nat.le_of_ble_eq_true rfl) ?_
      refine ks_iret S dX4_quarrels_27 ?_
      first | exact qc_r hC (by omega) (by unfold A_quarrels; (repeat' split) <;> first | rfl | omega | (congr 1; omega)) | exact qc_a hC (by unfold A_quarrels; (repeat' split) <;> first | rfl | omega | (congr 1; omega))
theorem pr_quarrels {d v p : Int} (hM : OkM M) (hR : RR σ M) : Ev l yX5_quarrels cX5_quarrels 6 (some .int) 2 44 [kr 38, ki d, ki v, ki p] σ (QR (A_quarrels M d v p) σ) := by
  have e39 : σ 39 = M 39 := hR.1
  have ok : OkR (σ 39) := by rw [e39]; exact hM.1
  have n9 := ok.1
  have n6 := ok.2.1
  refine ev_intro ym_X5_quarrels.1 (Nat.le_of_ble_eq_true rfl) (fun hv hσ K S => ?_)
  have hv := hv
  show K 0 [some (kr 38), some (ki d), some (ki v), some (ki p), none, none] [] σ
  refine ks_aload_n (n := 1) S dX5_quarrels_0 rfl rfl ?_
  refine ks_iload_n (n := 2) S dX5_quarrels_1 rfl rfl ?_
  refine kf_v1z (n := 5) S dX5_quarrels_2 rfl ml_X5_120 ym_X5_isDoor (ev_X5_isDoor n9) (by decide) rfl (Nat.le_of_ble_eq_true rfl) ?_
  refine ks_if_eq (n := 8) (tgt := 26) S dX5_quarrels_5 rfl rfl (fun h5 => ?_) (fun h5 => ?_)
  · skip
    simp only [bi_eq, bi_ne] at h5
    refine ks_iconst (n := 27) S dX5_quarrels_26 rfl (by unfold iv; decide) ?_
    refine ks_istore (n := 29) S dX5_quarrels_27 rfl (L' := fun y => [some (kr 38), some (ki d), some (ki v), some (ki p), some (ki y), none]) (Nat.le_of_ble_eq_true rfl) (fun _ => rfl) (fun v4_27 hv27 => ?_)
    subst hv27
    refine ks_iload (n := 31) S dX5_quarrels_29 rfl rfl ?_
    refine ks_if_eq (n := 34) (tgt := 41) S dX5_quarrels_31 rfl rfl (fun h31 => ?_) (fun h31 => ?_)
    · omega
    refine ks_aload_n (n := 35) S dX5_quarrels_34 rfl rfl ?_
    refine ks_iload (n := 37) S dX5_quarrels_35 rfl rfl ?_
    refine kf_v1i (n := 40) S dX5_quarrels_37 rfl ml_X5_38 ym_X5_no (ev_X5_no (by omega)) (by decide) rfl (Nat.le_of_ble_eq_true rfl) ?_
    refine ks_iret S dX5_quarrels_40 ?_
    first | exact qr_r hR (by unfold A_quarrels; (try simp only [← e39]); (repeat' split) <;> first | rfl | omega | (congr 1; omega)) | exact qr_a hR (by unfold A_quarrels; (try simp only [← e39]); (repeat' split) <;> first | rfl | omega | (congr 1; omega))
  · skip
    simp only [bi_eq, bi_ne] at h5
    refine ks_aload_n (n := 9) S dX5_quarrels_8 rfl rfl ?_
    refine ks_iload_n (n := 10) S dX5_quarrels_9 rfl rfl ?_
    refine kf_v1z (n := 13) S dX5_quarrels_10 rfl ml_X5_117 ym_X5_isPerson (ev_X5_isPerson n6) (by decide) rfl (Nat.le_of_ble_eq_true rfl) ?_
    refine ks_if_eq (n := 16) (tgt := 26) S dX5_quarrels_13 rfl rfl (fun h13 => ?_) (fun h13 => ?_)
    · skip
      simp only [bi_eq, bi_ne] at h13
      refine ks_iconst (n := 27) S dX5_quarrels_26 rfl (by unfold iv; decide) ?_
      refine ks_istore (n := 29) S dX5_quarrels_27 rfl (L' := fun y => [some (kr 38), some (ki d), some (ki v), some (ki p), some (ki y), none]) (Nat.le_of_ble_eq_true rfl) (fun _ => rfl) (fun v4_27 hv27 => ?_)
      subst hv27
      refine ks_iload (n := 31) S dX5_quarrels_29 rfl rfl ?_
      refine ks_if_eq (n := 34) (tgt := 41) S dX5_quarrels_31 rfl rfl (fun h31 => ?_) (fun h31 => ?_)
      · omega
      refine ks_aload_n (n := 35) S dX5_quarrels_34 rfl rfl ?_
      refine ks_iload (n := 37) S dX5_quarrels_35 rfl rfl ?_
      refine kf_v1i (n := 40) S dX5_quarrels_37 rfl ml_X5_38 ym_X5_no (ev_X5_no (by omega)) (by decide) rfl (Nat.le_of_ble_eq_true rfl) ?_
      refine ks_iret S dX5_quarrels_40 ?_
      first | exact qr_r hR (by unfold A_quarrels; (try simp only [← e39]); (repeat' split) <;> first | rfl | omega | (congr 1; omega)) | exact qr_a hR (by unfold A_quarrels; (try simp only [← e39]); (repeat' split) <;> first | rfl | omega | (congr 1; omega))
    · skip
      simp only [bi_eq, bi_ne] at h13
      refine ks_iload_n (n := 17) S dX5_quarrels_16 rfl rfl ?_
      refine ks_iconst (n := 18) S dX5_quarrels_17 rfl (by unfold iv; decide) ?_
      refine ks_bipush (n := 20) S dX5_quarrels_18 rfl (by unfold iv; decide) ?_
      refine kf_s3i (n := 23) S dX5_quarrels_20 rfl ml_X5_144 ym_X5_wrongBy (ev_X5_wrongBy) (by decide) (Nat.le_of_ble_eq_true rfl) ?_
      rcases m_out v 0 99 with ⟨hc20, hw20⟩ | ⟨hc20, hd20, hw20⟩ | ⟨hc20, hd20, hw20⟩
      · skip
        rw [hw20]
        refine ks_goto (n := 27) S dX5_quarrels_23 rfl ?_
        refine ks_istore (n := 29) S dX5_quarrels_27 rfl (L' := fun y => [some (kr 38), some (ki d), some (ki v), some (ki p), some (ki y), none]) (Nat.le_of_ble_eq_true rfl) (fun _ => rfl) (fun v4_27 hv27 => ?_)
        subst hv27
        refine ks_iload (n := 31) S dX5_quarrels_29 rfl rfl ?_
        refine ks_if_eq (n := 34) (tgt := 41) S dX5_quarrels_31 rfl rfl (fun h31 => ?_) (fun h31 => ?_)
        · omega
        refine ks_aload_n (n := 35) S dX5_quarrels_34 rfl rfl ?_
        refine ks_iload (n := 37) S dX5_quarrels_35 rfl rfl ?_
        refine kf_v1i (n := 40) S dX5_quarrels_37 rfl ml_X5_38 ym_X5_no (ev_X5_no (by omega)) (by decide) rfl (Nat.le_of_ble_eq_true rfl) ?_
        refine ks_iret S dX5_quarrels_40 ?_
        first | exact qr_r hR (by unfold A_quarrels; (try simp only [← e39]); (repeat' split) <;> first | rfl | omega | (congr 1; omega)) | exact qr_a hR (by unfold A_quarrels; (try simp only [← e39]); (repeat' split) <;> first | rfl | omega | (congr 1; omega))
      · skip
        rw [hw20]
        refine ks_goto (n := 27) S dX5_quarrels_23 rfl ?_
        refine ks_istore (n := 29) S dX5_quarrels_27 rfl (L' := fun y => [some (kr 38), some (ki d), some (ki v), some (ki p), some (ki y), none]) (Nat.le_of_ble_eq_true rfl) (fun _ => rfl) (fun v4_27 hv27 => ?_)
        subst hv27
        refine ks_iload (n := 31) S dX5_quarrels_29 rfl rfl ?_
        refine ks_if_eq (n := 34) (tgt := 41) S dX5_quarrels_31 rfl rfl (fun h31 => ?_) (fun h31 => ?_)
        · omega
        refine ks_aload_n (n := 35) S dX5_quarrels_34 rfl rfl ?_
        refine ks_iload (n := 37) S dX5_quarrels_35 rfl rfl ?_
        refine kf_v1i (n := 40) S dX5_quarrels_37 rfl ml_X5_38 ym_X5_no (ev_X5_no (by omega)) (by decide) rfl (Nat.le_of_ble_eq_true rfl) ?_
        refine ks_iret S dX5_quarrels_40 ?_
        first | exact qr_r hR (by unfold A_quarrels; (try simp only [← e39]); (repeat' split) <;> first | rfl | omega | (congr 1; omega)) | exact qr_a hR (by unfold A_quarrels; (try simp only [← e39]); (repeat' split) <;> first | rfl | omega | (congr 1; omega))
      · skip
        rw [hw20]
        refine ks_goto (n := 27) S dX5_quarrels_23 rfl ?_
        refine ks_istore (n := 29) S dX5_quarrels_27 rfl (L' := fun y => [some (kr 38), some (ki d), some (ki v), some (ki p), some (ki y), none]) (Nat.le_of_ble_eq_true rfl) (fun _ => rfl) (fun v4_27 hv27 => ?_)
        subst hv27
        refine ks_iload (n := 31) S dX5_quarrels_29 rfl rfl ?_
        refine ks_if_eq (n := 34) (tgt := 41) S dX5_quarrels_31 rfl rfl (fun h31 => ?_) (fun h31 => ?_)
        rotate_left
        · omega
        refine ks_aload_n (n := 42) S dX5_quarrels_41 rfl rfl ?_
        refine ks_getr (n := 45) S dX5_quarrels_42 rfl fl_X5_9 rfl rfl ?_
        refine ks_iload_n (n := 46) S dX5_quarrels_45 rfl rfl ?_
        refine ks_iconst (n := 47) S dX5_quarrels_46 rfl (by unfold iv; decide) ?_
        refine kf_s2i (n := 50) S dX5_quarrels_47 rfl ml_X5_48 ym_X5_ofD (ev_X5_ofD (by omega) (by omega)) (by decide) (Nat.le_of_ble_eq_true rfl) ?_
        refine ks_iaload (n := 51) S dX5_quarrels_50 rfl rfl (by omega) ?_
        refine ks_istore (n := 53) S dX5_quarrels_51 rfl (L' := fun y => [some (kr 38), some (ki d), some (ki v), some (ki p), some (ki _), some (ki y)]) (Nat.le_of_ble_eq_true rfl) (fun _ => rfl) (fun v5_51 hv51 => ?_)
        subst hv51
        refine ks_aload_n (n := 54) S dX5_quarrels_53 rfl rfl ?_
        refine ks_getr (n := 57) S dX5_quarrels_54 rfl fl_X5_9 rfl rfl ?_
        refine ks_iload_n (n := 58) S dX5_quarrels_57 rfl rfl ?_
        refine ks_iload_n (n := 59) S dX5_quarrels_58 rfl rfl ?_
        refine ks_iload_n (n := 60) S dX5_quarrels_59 rfl rfl ?_
        refine kf_s4v (n := 63) S dX5_quarrels_60 rfl ml_X5_69 ym_X5_heats (ev_X5_heats rfl (by omega)) (by decide) (Nat.le_of_ble_eq_true rfl) ?_
        refine ks_iload (n := 65) S dX5_quarrels_63 rfl rfl ?_
        refine ks_iret S dX5_quarrels_65 ?_
        exact qr_h hR (by unfold A_quarrels; simp only [← e39]; rw [if_neg (by omega), if_neg (by omega), if_neg (by omega)]; rfl)
def A_airs (M : KS) (d : Int) : Int × KS := if ¬ (0 ≤ d ∧ d < M 39 0) then (-1, rfM M (-1)) else (aD (M 39) d 4, mH M (m_heats (M 39) d 0 9))
theorem pc_airs {d : Int} (hM : OkM M) (hC : RC σ M) : Ev l yX4_airs cX4_airs 3 (some .int) 1 23 [kr 0, ki d] σ (QC (A_airs M d) σ) := by
  have R := hC.1
  have ok := hM.1
  have n9 := ok.1
  have n6 := ok.2.1
  refine ev_intro ym_X4_airs.1 (Nat.le_of_ble_eq_true rfl) (fun hv hσ K S => ?_)
  have hv := hv
  show K 0 [some (kr 0), some (ki d), none] [] σ
  refine ks_aload_n (n := 1) S dX4_airs_0 rfl rfl ?_
  refine ks_getr (n := 4) S dX4_airs_1 rfl fl_X4_10 rfl rfl ?_
  refine ks_iload_n (n := 5) S dX4_airs_4 rfl rfl ?_
  refine kf_v1z (n := 8) S dX4_airs_5 rfl ml_X4_74 ym_X0_hasDoor (ev_X0_hasDoor kq_H1 R) (by decide) kq_H1.o (Nat.le_of_ble_eq_true rfl) ?_
  refine ks_if_ne (n := 11) (tgt := 17) S dX4_airs_8 rfl rfl (fun h8 => ?_) (fun h8 => ?_)
  · skip
    simp only [bi_eq, bi_ne] at h8
    obtain ⟨e1, e2, e3, e4, e5, e6⟩ := R.2.2.2.1 d (by omega) (by omega)
    refine ks_aload_n (n := 18) S dX4_airs_17 rfl rfl ?_
    refine ks_getr (n := 21) S dX4_airs_18 rfl fl_X4_10 rfl rfl ?_
    refine ks_getr (n := 24) S dX4_airs_21 rfl fl_X4_90 kq_H1.o rfl ?_
    refine ks_iload_n (n := 25) S dX4_airs_24 rfl rfl ?_
    refine ks_iaload (n := 26) S dX4_airs_25 rfl kq_H1.a5 (by omega) ?_
    refine ks_istore_n (n := 27) S dX4_airs_26 rfl rfl (L' := fun y => [some (kr 0), some (ki d), some (ki y)]) (Nat.le_of_ble_eq_true rfl) (fun _ => rfl) (fun v2_26 hv26 => ?_)
    subst hv26
    refine ks_aload_n (n := 28) S dX4_airs_27 rfl rfl ?_
    refine ks_getr (n := 31) S dX4_airs_28 rfl fl_X4_10 rfl rfl ?_
    refine ks_iload_n (n := 32) S dX4_airs_31 rfl rfl ?_
    refine ks_iconst (n := 33) S dX4_airs_32 rfl (by unfold iv; decide) ?_
    refine ks_bipush (n := 35) S dX4_airs_33 rfl (by unfold iv; decide) ?_
    refine kf_v3v (n := 38) S dX4_airs_35 rfl ml_X4_126 ym_X0_fill (ev_X0_fill kq_H1 (by omega)) (by decide) kq_H1.o (Nat.le_of_ble_eq_true rfl) ?_
    refine ks_iload_n (n := 39) S dX4_airs_38 rfl rfl ?_
    refine ks_iret S dX4_airs_39 ?_
    exact qc_h hC fill_F (fill_H R (by omega) (by omega)) (by unfold A_airs; rw [if_neg (by omega), e5])
  · skip
    simp only [bi_eq, bi_ne] at h8
    refine ks_aload_n (n := 12) S dX4_airs_11 rfl rfl ?_
    refine ks_iconst (n := 13) S dX4_airs_12 rfl (by unfold iv; decide) ?_
    refine kf_v1i (n := 16) S dX4_airs_13 rfl ml_X4_51 ym_X4_refuse (ev_X4_refuse (by omega)) (by decide) rfl (Nat.le_of_ble_eq_true rfl) ?_
    refine ks_iret S dX4_airs_16 ?_
    first | exact qc_r hC (by omega) (by unfold A_airs; (repeat' split) <;> first | rfl | omega | (congr 1; omega)) | exact qc_a hC (by unfold A_airs; (repeat' split) <;> first | rfl | omega | (congr 1; omega))
theorem pr_airs {d : Int} (hM : OkM M) (hR : RR σ M) : Ev l yX5_airs cX5_airs 3 (some .int) 2 44 [kr 38, ki d] σ (QR (A_airs M d) σ) := by
  have e39 : σ 39 = M 39 := hR.1
  have ok : OkR (σ 39) := by rw [e39]; exact hM.1
  have n9 := ok.1
  have n6 := ok.2.1
  refine ev_intro ym_X5_airs.1 (Nat.le_of_ble_eq_true rfl) (fun hv hσ K S => ?_)
  have hv := hv
  show K 0 [some (kr 38), some (ki d), none] [] σ
  refine ks_aload_n (n := 1) S dX5_airs_0 rfl rfl ?_
  refine ks_iload_n (n := 2) S dX5_airs_1 rfl rfl ?_
  refine kf_v1z (n := 5) S dX5_airs_2 rfl ml_X5_120 ym_X5_isDoor (ev_X5_isDoor n9) (by decide) rfl (Nat.le_of_ble_eq_true rfl) ?_
  refine ks_if_ne (n := 8) (tgt := 14) S dX5_airs_5 rfl rfl (fun h5 => ?_) (fun h5 => ?_)
  · skip
    simp only [bi_eq, bi_ne] at h5
    refine ks_aload_n (n := 15) S dX5_airs_14 rfl rfl ?_
    refine ks_getr (n := 18) S dX5_airs_15 rfl fl_X5_9 rfl rfl ?_
    refine ks_iload_n (n := 19) S dX5_airs_18 rfl rfl ?_
    refine ks_iconst (n := 20) S dX5_airs_19 rfl (by unfold iv; decide) ?_
    refine kf_s2i (n := 23) S dX5_airs_20 rfl ml_X5_48 ym_X5_ofD (ev_X5_ofD (by omega) (by omega)) (by decide) (Nat.le_of_ble_eq_true rfl) ?_
    refine ks_iaload (n := 24) S dX5_airs_23 rfl rfl (by omega) ?_
    refine ks_istore_n (n := 25) S dX5_airs_24 rfl rfl (L' := fun y => [some (kr 38), some (ki d), some (ki y)]) (Nat.le_of_ble_eq_true rfl) (fun _ => rfl) (fun v2_24 hv24 => ?_)
    subst hv24
    refine ks_aload_n (n := 26) S dX5_airs_25 rfl rfl ?_
    refine ks_getr (n := 29) S dX5_airs_26 rfl fl_X5_9 rfl rfl ?_
    refine ks_iload_n (n := 30) S dX5_airs_29 rfl rfl ?_
    refine ks_iconst (n := 31) S dX5_airs_30 rfl (by unfold iv; decide) ?_
    refine ks_bipush (n := 33) S dX5_airs_31 rfl (by unfold iv; decide) ?_
    refine kf_s4v (n := 36) S dX5_airs_33 rfl ml_X5_69 ym_X5_heats (ev_X5_heats rfl (by omega)) (by decide) (Nat.le_of_ble_eq_true rfl) ?_
    refine ks_iload_n (n := 37) S dX5_airs_36 rfl rfl ?_
    refine ks_iret S dX5_airs_37 ?_
    exact qr_h hR (by unfold A_airs; simp only [← e39]; rw [if_neg (by omega)]; rfl)
  · skip
    simp only [bi_eq, bi_ne] at h5
    refine ks_aload_n (n := 9) S dX5_airs_8 rfl rfl ?_
    refine ks_iconst (n := 10) S dX5_airs_9 rfl (by unfold iv; decide) ?_
    refine kf_v1i (n := 13) S dX5_airs_10 rfl ml_X5_38 ym_X5_no (ev_X5_no (by omega)) (by decide) rfl (Nat.le_of_ble_eq_true rfl) ?_
    refine ks_iret S dX5_airs_13 ?_
    first | exact qr_r hR (by unfold A_airs; (try simp only [← e39]); (repeat' split) <;> first | rfl | omega | (congr 1; omega)) | exact qr_a hR (by unfold A_airs; (try simp only [← e39]); (repeat' split) <;> first | rfl | omega | (congr 1; omega))
def A_moods (M : KS) (p v : Int) : Int × KS := if ¬ (0 ≤ p ∧ p < M 39 1) then (-1, rfM M (-1)) else if v < 0 then (-4, rfM M (-4)) else if 99 < v then (-6, rfM M (-6)) else (aP (M 39) p 2, mH M (ru (M 39) (57 + 3 * p + 2) v))
theorem pc_moods {p v : Int} (hM : OkM M) (hC : RC σ M) : Ev l yX4_moods cX4_moods 5 (some .int) 1 22 [kr 0, ki p, ki v] σ (QC (A_moods M p v) σ) := by
  have R := hC.1
  have ok := hM.1
  have n9 := ok.1
  have n6 := ok.2.1
  refine ev_intro ym_X4_moods.1 (Nat.le_of_ble_eq_true rfl) (fun hv hσ K S => ?_)
  have hv := hv
  show K 0 [some (kr 0), some (ki p), some (ki v), none, none] [] σ
  refine ks_aload_n (n := 1) S dX4_moods_0 rfl rfl ?_
  refine ks_getr (n := 4) S dX4_moods_1 rfl fl_X4_10 rfl rfl ?_
  refine ks_iload_n (n := 5) S dX4_moods_4 rfl rfl ?_
  refine kf_v1z (n := 8) S dX4_moods_5 rfl ml_X4_99 ym_X0_hasPerson (ev_X0_hasPerson kq_H1 R) (by decide) kq_H1.o (Nat.le_of_ble_eq_true rfl) ?_
  refine ks_if_ne (n := 11) (tgt := 17) S dX4_moods_8 rfl rfl (fun h8 => ?_) (fun h8 => ?_)
  · skip
    simp only [bi_eq, bi_ne] at h8
    obtain ⟨e1, e2, e3⟩ := R.2.2.2.2 p (by omega) (by omega)
    refine ks_iload_n (n := 18) S dX4_moods_17 rfl rfl ?_
    refine ks_iconst (n := 19) S dX4_moods_18 rfl (by unfold iv; decide) ?_
    refine ks_bipush (n := 21) S dX4_moods_19 rfl (by unfold iv; decide) ?_
    refine kf_s3i (n := 24) S dX4_moods_21 rfl ml_X4_122 ym_X4_outside (ev_X4_outside) (by decide) (Nat.le_of_ble_eq_true rfl) ?_
    rcases m_out v 0 99 with ⟨hc21, hw21⟩ | ⟨hc21, hd21, hw21⟩ | ⟨hc21, hd21, hw21⟩
    · skip
      rw [hw21]
      refine ks_istore_n (n := 25) S dX4_moods_24 rfl rfl (L' := fun y => [some (kr 0), some (ki p), some (ki v), some (ki y), none]) (Nat.le_of_ble_eq_true rfl) (fun _ => rfl) (fun v3_24 hv24 => ?_)
      subst hv24
      refine ks_iload_n (n := 26) S dX4_moods_25 rfl rfl ?_
      refine ks_if_ge (n := 29) (tgt := 35) S dX4_moods_26 rfl rfl (fun h26 => ?_) (fun h26 => ?_)
      · omega
      refine ks_aload_n (n := 30) S dX4_moods_29 rfl rfl ?_
      refine ks_iload_n (n := 31) S dX4_moods_30 rfl rfl ?_
      refine kf_v1i (n := 34) S dX4_moods_31 rfl ml_X4_51 ym_X4_refuse (ev_X4_refuse (by omega)) (by decide) rfl (Nat.le_of_ble_eq_true rfl) ?_
      refine ks_iret S dX4_moods_34 ?_
      first | exact qc_r hC (by omega) (by unfold A_moods; (repeat' split) <;> first | rfl | omega | (congr 1; omega)) | exact qc_a hC (by unfold A_moods; (repeat' split) <;> first | rfl | omega | (congr 1; omega))
    · skip
      rw [hw21]
      refine ks_istore_n (n := 25) S dX4_moods_24 rfl rfl (L' := fun y => [some (kr 0), some (ki p), some (ki v), some (ki y), none]) (Nat.le_of_ble_eq_true rfl) (fun _ => rfl) (fun v3_24 hv24 => ?_)
      subst hv24
      refine ks_iload_n (n := 26) S dX4_moods_25 rfl rfl ?_
      refine ks_if_ge (n := 29) (tgt := 35) S dX4_moods_26 rfl rfl (fun h26 => ?_) (fun h26 => ?_)
      · omega
      refine ks_aload_n (n := 30) S dX4_moods_29 rfl rfl ?_
      refine ks_iload_n (n := 31) S dX4_moods_30 rfl rfl ?_
      refine kf_v1i (n := 34) S dX4_moods_31 rfl ml_X4_51 ym_X4_refuse (ev_X4_refuse (by omega)) (by decide) rfl (Nat.le_of_ble_eq_true rfl) ?_
      refine ks_iret S dX4_moods_34 ?_
      first | exact qc_r hC (by omega) (by unfold A_moods; (repeat' split) <;> first | rfl | omega | (congr 1; omega)) | exact qc_a hC (by unfold A_moods; (repeat' split) <;> first | rfl | omega | (congr 1; omega))
    · skip
      rw [hw21]
      refine ks_istore_n (n := 25) S dX4_moods_24 rfl rfl (L' := fun y => [some (kr 0), some (ki p), some (ki v), some (ki y), none]) (Nat.le_of_ble_eq_true rfl) (fun _ => rfl) (fun v3_24 hv24 => ?_)
      subst hv24
      refine ks_iload_n (n := 26) S dX4_moods_25 rfl rfl ?_
      refine ks_if_ge (n := 29) (tgt := 35) S dX4_moods_26 rfl rfl (fun h26 => ?_) (fun h26 => ?_)
      rotate_left
      · omega
      refine ks_aload_n (n := 36) S dX4_moods_35 rfl rfl ?_
      refine ks_getr (n := 39) S dX4_moods_36 rfl fl_X4_10 rfl rfl ?_
      refine ks_getr (n := 42) S dX4_moods_39 rfl fl_X4_108 kq_H1.o rfl ?_
      refine ks_iload_n (n := 43) S dX4_moods_42 rfl rfl ?_
      refine ks_iaload (n := 44) S dX4_moods_43 rfl kq_H1.a9 (by omega) ?_
      refine ks_istore (n := 46) S dX4_moods_44 rfl (L' := fun y => [some (kr 0), some (ki p), some (ki v), some (ki _), some (ki y)]) (Nat.le_of_ble_eq_true rfl) (fun _ => rfl) (fun v4_44 hv44 => ?_)
      subst hv44
      refine ks_aload_n (n := 47) S dX4_moods_46 rfl rfl ?_
      refine ks_getr (n := 50) S dX4_moods_47 rfl fl_X4_10 rfl rfl ?_
      refine ks_getr (n := 53) S dX4_moods_50 rfl fl_X4_108 kq_H1.o rfl ?_
      refine ks_iload_n (n := 54) S dX4_moods_53 rfl rfl ?_
      refine ks_iload_n (n := 55) S dX4_moods_54 rfl rfl ?_
      refine ks_iastore (n := 56) S dX4_moods_55 rfl kq_H1.a9 (by omega) ?_
      refine ks_iload (n := 58) S dX4_moods_56 rfl rfl ?_
      refine ks_iret S dX4_moods_58 ?_
      exact qc_h hC (FrH.rf.up (by omega) (by omega)) (R.uP2 (by omega) (by omega)) (by unfold A_moods; rw [if_neg (by omega), if_neg (by omega), if_neg (by omega), e3])
  · skip
    simp only [bi_eq, bi_ne] at h8
    refine ks_aload_n (n := 12) S dX4_moods_11 rfl rfl ?_
    refine ks_iconst (n := 13) S dX4_moods_12 rfl (by unfold iv; decide) ?_
    refine kf_v1i (n := 16) S dX4_moods_13 rfl ml_X4_51 ym_X4_refuse (ev_X4_refuse (by omega)) (by decide) rfl (Nat.le_of_ble_eq_true rfl) ?_
    refine ks_iret S dX4_moods_16 ?_
    first | exact qc_r hC (by omega) (by unfold A_moods; (repeat' split) <;> first | rfl | omega | (congr 1; omega)) | exact qc_a hC (by unfold A_moods; (repeat' split) <;> first | rfl | omega | (congr 1; omega))
theorem pr_moods {p v : Int} (hM : OkM M) (hR : RR σ M) : Ev l yX5_moods cX5_moods 5 (some .int) 2 43 [kr 38, ki p, ki v] σ (QR (A_moods M p v) σ) := by
  have e39 : σ 39 = M 39 := hR.1
  have ok : OkR (σ 39) := by rw [e39]; exact hM.1
  have n9 := ok.1
  have n6 := ok.2.1
  refine ev_intro ym_X5_moods.1 (Nat.le_of_ble_eq_true rfl) (fun hv hσ K S => ?_)
  have hv := hv
  show K 0 [some (kr 38), some (ki p), some (ki v), none, none] [] σ
  refine ks_aload_n (n := 1) S dX5_moods_0 rfl rfl ?_
  refine ks_iload_n (n := 2) S dX5_moods_1 rfl rfl ?_
  refine kf_v1z (n := 5) S dX5_moods_2 rfl ml_X5_117 ym_X5_isPerson (ev_X5_isPerson n6) (by decide) rfl (Nat.le_of_ble_eq_true rfl) ?_
  refine ks_if_eq (n := 8) (tgt := 18) S dX5_moods_5 rfl rfl (fun h5 => ?_) (fun h5 => ?_)
  · skip
    simp only [bi_eq, bi_ne] at h5
    refine ks_iconst (n := 19) S dX5_moods_18 rfl (by unfold iv; decide) ?_
    refine ks_istore_n (n := 20) S dX5_moods_19 rfl rfl (L' := fun y => [some (kr 38), some (ki p), some (ki v), some (ki y), none]) (Nat.le_of_ble_eq_true rfl) (fun _ => rfl) (fun v3_19 hv19 => ?_)
    subst hv19
    refine ks_iload_n (n := 21) S dX5_moods_20 rfl rfl ?_
    refine ks_if_eq (n := 24) (tgt := 30) S dX5_moods_21 rfl rfl (fun h21 => ?_) (fun h21 => ?_)
    · omega
    refine ks_aload_n (n := 25) S dX5_moods_24 rfl rfl ?_
    refine ks_iload_n (n := 26) S dX5_moods_25 rfl rfl ?_
    refine kf_v1i (n := 29) S dX5_moods_26 rfl ml_X5_38 ym_X5_no (ev_X5_no (by omega)) (by decide) rfl (Nat.le_of_ble_eq_true rfl) ?_
    refine ks_iret S dX5_moods_29 ?_
    first | exact qr_r hR (by unfold A_moods; (try simp only [← e39]); (repeat' split) <;> first | rfl | omega | (congr 1; omega)) | exact qr_a hR (by unfold A_moods; (try simp only [← e39]); (repeat' split) <;> first | rfl | omega | (congr 1; omega))
  · skip
    simp only [bi_eq, bi_ne] at h5
    refine ks_iload_n (n := 9) S dX5_moods_8 rfl rfl ?_
    refine ks_iconst (n := 10) S dX5_moods_9 rfl (by unfold iv; decide) ?_
    refine ks_bipush (n := 12) S dX5_moods_10 rfl (by unfold iv; decide) ?_
    refine kf_s3i (n := 15) S dX5_moods_12 rfl ml_X5_144 ym_X5_wrongBy (ev_X5_wrongBy) (by decide) (Nat.le_of_ble_eq_true rfl) ?_
    rcases m_out v 0 99 with ⟨hc12, hw12⟩ | ⟨hc12, hd12, hw12⟩ | ⟨hc12, hd12, hw12⟩
    · skip
      rw [hw12]
      refine ks_goto (n := 19) S dX5_moods_15 rfl ?_
      refine ks_istore_n (n := 20) S dX5_moods_19 rfl rfl (L' := fun y => [some (kr 38), some (ki p), some (ki v), some (ki y), none]) (Nat.le_of_ble_eq_true rfl) (fun _ => rfl) (fun v3_19 hv19 => ?_)
      subst hv19
      refine ks_iload_n (n := 21) S dX5_moods_20 rfl rfl ?_
      refine ks_if_eq (n := 24) (tgt := 30) S dX5_moods_21 rfl rfl (fun h21 => ?_) (fun h21 => ?_)
      · omega
      refine ks_aload_n (n := 25) S dX5_moods_24 rfl rfl ?_
      refine ks_iload_n (n := 26) S dX5_moods_25 rfl rfl ?_
      refine kf_v1i (n := 29) S dX5_moods_26 rfl ml_X5_38 ym_X5_no (ev_X5_no (by omega)) (by decide) rfl (Nat.le_of_ble_eq_true rfl) ?_
      refine ks_iret S dX5_moods_29 ?_
      first | exact qr_r hR (by unfold A_moods; (try simp only [← e39]); (repeat' split) <;> first | rfl | omega | (congr 1; omega)) | exact qr_a hR (by unfold A_moods; (try simp only [← e39]); (repeat' split) <;> first | rfl | omega | (congr 1; omega))
    · skip
      rw [hw12]
      refine ks_goto (n := 19) S dX5_moods_15 rfl ?_
      refine ks_istore_n (n := 20) S dX5_moods_19 rfl rfl (L' := fun y => [some (kr 38), some (ki p), some (ki v), some (ki y), none]) (Nat.le_of_ble_eq_true rfl) (fun _ => rfl) (fun v3_19 hv19 => ?_)
      subst hv19
      refine ks_iload_n (n := 21) S dX5_moods_20 rfl rfl ?_
      refine ks_if_eq (n := 24) (tgt := 30) S dX5_moods_21 rfl rfl (fun h21 => ?_) (fun h21 => ?_)
      · omega
      refine ks_aload_n (n := 25) S dX5_moods_24 rfl rfl ?_
      refine ks_iload_n (n := 26) S dX5_moods_25 rfl rfl ?_
      refine kf_v1i (n := 29) S dX5_moods_26 rfl ml_X5_38 ym_X5_no (ev_X5_no (by omega)) (by decide) rfl (Nat.le_of_ble_eq_true rfl) ?_
      refine ks_iret S dX5_moods_29 ?_
      first | exact qr_r hR (by unfold A_moods; (try simp only [← e39]); (repeat' split) <;> first | rfl | omega | (congr 1; omega)) | exact qr_a hR (by unfold A_moods; (try simp only [← e39]); (repeat' split) <;> first | rfl | omega | (congr 1; omega))
    · skip
      rw [hw12]
      refine ks_goto (n := 19) S dX5_moods_15 rfl ?_
      refine ks_istore_n (n := 20) S dX5_moods_19 rfl rfl (L' := fun y => [some (kr 38), some (ki p), some (ki v), some (ki y), none]) (Nat.le_of_ble_eq_true rfl) (fun _ => rfl) (fun v3_19 hv19 => ?_)
      subst hv19
      refine ks_iload_n (n := 21) S dX5_moods_20 rfl rfl ?_
      refine ks_if_eq (n := 24) (tgt := 30) S dX5_moods_21 rfl rfl (fun h21 => ?_) (fun h21 => ?_)
      rotate_left
      · omega
      refine ks_aload_n (n := 31) S dX5_moods_30 rfl rfl ?_
      refine ks_getr (n := 34) S dX5_moods_31 rfl fl_X5_9 rfl rfl ?_
      refine ks_iload_n (n := 35) S dX5_moods_34 rfl rfl ?_
      refine ks_iconst (n := 36) S dX5_moods_35 rfl (by unfold iv; decide) ?_
      refine kf_s2i (n := 39) S dX5_moods_36 rfl ml_X5_55 ym_X5_ofP (ev_X5_ofP (by omega) (by omega)) (by decide) (Nat.le_of_ble_eq_true rfl) ?_
      refine ks_iaload (n := 40) S dX5_moods_39 rfl rfl (by omega) ?_
      refine ks_istore (n := 42) S dX5_moods_40 rfl (L' := fun y => [some (kr 38), some (ki p), some (ki v), some (ki _), some (ki y)]) (Nat.le_of_ble_eq_true rfl) (fun _ => rfl) (fun v4_40 hv40 => ?_)
      subst hv40
      refine ks_aload_n (n := 43) S dX5_moods_42 rfl rfl ?_
      refine ks_getr (n := 46) S dX5_moods_43 rfl fl_X5_9 rfl rfl ?_
      refine ks_iload_n (n := 47) S dX5_moods_46 rfl rfl ?_
      refine ks_iconst (n := 48) S dX5_moods_47 rfl (by unfold iv; decide) ?_
      refine kf_s2i (n := 51) S dX5_moods_48 rfl ml_X5_55 ym_X5_ofP (ev_X5_ofP (by omega) (by omega)) (by decide) (Nat.le_of_ble_eq_true rfl) ?_
      refine ks_iload_n (n := 52) S dX5_moods_51 rfl rfl ?_
      refine ks_iastore (n := 53) S dX5_moods_52 rfl rfl (by omega) ?_
      refine ks_iload (n := 55) S dX5_moods_53 rfl rfl ?_
      refine ks_iret S dX5_moods_55 ?_
      rw [kq_up_sr]
      exact qr_h hR (by unfold A_moods; simp only [← e39]; rw [if_neg (by omega), if_neg (by omega), if_neg (by omega)]; rfl)
def A_stands (M : KS) (p o : Int) : Int × KS := if ¬ ((0 ≤ p ∧ p < M 39 1) ∧ (0 ≤ o ∧ o < 7)) then (-1, rfM M (-1)) else (aP (M 39) p 1, mH M (ru (M 39) (57 + 3 * p + 1) o))
theorem pc_stands {p o : Int} (hM : OkM M) (hC : RC σ M) : Ev l yX4_stands cX4_stands 4 (some .int) 1 21 [kr 0, ki p, ki o] σ (QC (A_stands M p o) σ) := by
  have R := hC.1
  have ok := hM.1
  have n9 := ok.1
  have n6 := ok.2.1
  refine ev_intro ym_X4_stands.1 (Nat.le_of_ble_eq_true rfl) (fun hv hσ K S => ?_)
  have hv := hv
  show K 0 [some (kr 0), some (ki p), some (ki o), none] [] σ
  refine ks_aload_n (n := 1) S dX4_stands_0 rfl rfl ?_
  refine ks_getr (n := 4) S dX4_stands_1 rfl fl_X4_10 rfl rfl ?_
  refine ks_iload_n (n := 5) S dX4_stands_4 rfl rfl ?_
  refine kf_v1z (n := 8) S dX4_stands_5 rfl ml_X4_99 ym_X0_hasPerson (ev_X0_hasPerson kq_H1 R) (by decide) kq_H1.o (Nat.le_of_ble_eq_true rfl) ?_
  refine ks_if_eq (n := 11) (tgt := 18) S dX4_stands_8 rfl rfl (fun h8 => ?_) (fun h8 => ?_)
  · skip
    simp only [bi_eq, bi_ne] at h8
    refine ks_aload_n (n := 19) S dX4_stands_18 rfl rfl ?_
    refine ks_iconst (n := 20) S dX4_stands_19 rfl (by unfold iv; decide) ?_
    refine kf_v1i (n := 23) S dX4_stands_20 rfl ml_X4_51 ym_X4_refuse (ev_X4_refuse (by omega)) (by decide) rfl (Nat.le_of_ble_eq_true rfl) ?_
    refine ks_iret S dX4_stands_23 ?_
    first | exact qc_r hC (by omega) (by unfold A_stands; (repeat' split) <;> first | rfl | omega | (congr 1; omega)) | exact qc_a hC (by unfold A_stands; (repeat' split) <;> first | rfl | omega | (congr 1; omega))
  · skip
    simp only [bi_eq, bi_ne] at h8
    refine ks_iload_n (n := 12) S dX4_stands_11 rfl rfl ?_
    refine kf_s1z (n := 15) S dX4_stands_12 rfl ml_X4_130 ym_X4_isRoom (ev_X4_isRoom) (by decide) (Nat.le_of_ble_eq_true rfl) ?_
    refine ks_if_ne (n := 18) (tgt := 24) S dX4_stands_15 rfl rfl (fun h15 => ?_) (fun h15 => ?_)
    · skip
      simp only [bi_eq, bi_ne] at h15
      obtain ⟨e1, e2, e3⟩ := R.2.2.2.2 p (by omega) (by omega)
      refine ks_aload_n (n := 25) S dX4_stands_24 rfl rfl ?_
      refine ks_getr (n := 28) S dX4_stands_25 rfl fl_X4_10 rfl rfl ?_
      refine ks_getr (n := 31) S dX4_stands_28 rfl fl_X4_105 kq_H1.o rfl ?_
      refine ks_iload_n (n := 32) S dX4_stands_31 rfl rfl ?_
      refine ks_iaload (n := 33) S dX4_stands_32 rfl kq_H1.a8 (by omega) ?_
      refine ks_istore_n (n := 34) S dX4_stands_33 rfl rfl (L' := fun y => [some (kr 0), some (ki p), some (ki o), some (ki y)]) (Nat.le_of_ble_eq_true rfl) (fun _ => rfl) (fun v3_33 hv33 => ?_)
      subst hv33
      refine ks_aload_n (n := 35) S dX4_stands_34 rfl rfl ?_
      refine ks_getr (n := 38) S dX4_stands_35 rfl fl_X4_10 rfl rfl ?_
      refine ks_getr (n := 41) S dX4_stands_38 rfl fl_X4_105 kq_H1.o rfl ?_
      refine ks_iload_n (n := 42) S dX4_stands_41 rfl rfl ?_
      refine ks_iload_n (n := 43) S dX4_stands_42 rfl rfl ?_
      refine ks_iastore (n := 44) S dX4_stands_43 rfl kq_H1.a8 (by omega) ?_
      refine ks_iload_n (n := 45) S dX4_stands_44 rfl rfl ?_
      refine ks_iret S dX4_stands_45 ?_
      exact qc_h hC (FrH.rf.up (by omega) (by omega)) (R.uP1 (by omega) (by omega)) (by unfold A_stands; rw [if_neg (by omega), e2])
    · skip
      simp only [bi_eq, bi_ne] at h15
      refine ks_aload_n (n := 19) S dX4_stands_18 rfl rfl ?_
      refine ks_iconst (n := 20) S dX4_stands_19 rfl (by unfold iv; decide) ?_
      refine kf_v1i (n := 23) S dX4_stands_20 rfl ml_X4_51 ym_X4_refuse (ev_X4_refuse (by omega)) (by decide) rfl (Nat.le_of_ble_eq_true rfl) ?_
      refine ks_iret S dX4_stands_23 ?_
      first | exact qc_r hC (by omega) (by unfold A_stands; (repeat' split) <;> first | rfl | omega | (congr 1; omega)) | exact qc_a hC (by unfold A_stands; (repeat' split) <;> first | rfl | omega | (congr 1; omega))
theorem pr_stands {p o : Int} (hM : OkM M) (hR : RR σ M) : Ev l yX5_stands cX5_stands 4 (some .int) 2 43 [kr 38, ki p, ki o] σ (QR (A_stands M p o) σ) := by
  have e39 : σ 39 = M 39 := hR.1
  have ok : OkR (σ 39) := by rw [e39]; exact hM.1
  have n9 := ok.1
  have n6 := ok.2.1
  refine ev_intro ym_X5_stands.1 (Nat.le_of_ble_eq_true rfl) (fun hv hσ K S => ?_)
  have hv := hv
  show K 0 [some (kr 38), some (ki p), some (ki o), none] [] σ
  refine ks_aload_n (n := 1) S dX5_stands_0 rfl rfl ?_
  refine ks_iload_n (n := 2) S dX5_stands_1 rfl rfl ?_
  refine kf_v1z (n := 5) S dX5_stands_2 rfl ml_X5_117 ym_X5_isPerson (ev_X5_isPerson n6) (by decide) rfl (Nat.le_of_ble_eq_true rfl) ?_
  refine ks_if_eq (n := 8) (tgt := 15) S dX5_stands_5 rfl rfl (fun h5 => ?_) (fun h5 => ?_)
  · skip
    simp only [bi_eq, bi_ne] at h5
    refine ks_aload_n (n := 16) S dX5_stands_15 rfl rfl ?_
    refine ks_iconst (n := 17) S dX5_stands_16 rfl (by unfold iv; decide) ?_
    refine kf_v1i (n := 20) S dX5_stands_17 rfl ml_X5_38 ym_X5_no (ev_X5_no (by omega)) (by decide) rfl (Nat.le_of_ble_eq_true rfl) ?_
    refine ks_iret S dX5_stands_20 ?_
    first | exact qr_r hR (by unfold A_stands; (try simp only [← e39]); (repeat' split) <;> first | rfl | omega | (congr 1; omega)) | exact qr_a hR (by unfold A_stands; (try simp only [← e39]); (repeat' split) <;> first | rfl | omega | (congr 1; omega))
  · skip
    simp only [bi_eq, bi_ne] at h5
    refine ks_iload_n (n := 9) S dX5_stands_8 rfl rfl ?_
    refine kf_s1z (n := 12) S dX5_stands_9 rfl ml_X5_109 ym_X5_isRoom (ev_X5_isRoom) (by decide) (Nat.le_of_ble_eq_true rfl) ?_
    refine ks_if_ne (n := 15) (tgt := 21) S dX5_stands_12 rfl rfl (fun h12 => ?_) (fun h12 => ?_)
    · skip
      simp only [bi_eq, bi_ne] at h12
      refine ks_aload_n (n := 22) S dX5_stands_21 rfl rfl ?_
      refine ks_getr (n := 25) S dX5_stands_22 rfl fl_X5_9 rfl rfl ?_
      refine ks_iload_n (n := 26) S dX5_stands_25 rfl rfl ?_
      refine ks_iconst (n := 27) S dX5_stands_26 rfl (by unfold iv; decide) ?_
      refine kf_s2i (n := 30) S dX5_stands_27 rfl ml_X5_55 ym_X5_ofP (ev_X5_ofP (by omega) (by omega)) (by decide) (Nat.le_of_ble_eq_true rfl) ?_
      refine ks_iaload (n := 31) S dX5_stands_30 rfl rfl (by omega) ?_
      refine ks_istore_n (n := 32) S dX5_stands_31 rfl rfl (L' := fun y => [some (kr 38), some (ki p), some (ki o), some (ki y)]) (Nat.le_of_ble_eq_true rfl) (fun _ => rfl) (fun v3_31 hv31 => ?_)
      subst hv31
      refine ks_aload_n (n := 33) S dX5_stands_32 rfl rfl ?_
      refine ks_getr (n := 36) S dX5_stands_33 rfl fl_X5_9 rfl rfl ?_
      refine ks_iload_n (n := 37) S dX5_stands_36 rfl rfl ?_
      refine ks_iconst (n := 38) S dX5_stands_37 rfl (by unfold iv; decide) ?_
      refine kf_s2i (n := 41) S dX5_stands_38 rfl ml_X5_55 ym_X5_ofP (ev_X5_ofP (by omega) (by omega)) (by decide) (Nat.le_of_ble_eq_true rfl) ?_
      refine ks_iload_n (n := 42) S dX5_stands_41 rfl rfl ?_
      refine ks_iastore (n := 43) S dX5_stands_42 rfl rfl (by omega) ?_
      refine ks_iload_n (n := 44) S dX5_stands_43 rfl rfl ?_
      refine ks_iret S dX5_stands_44 ?_
      rw [kq_up_sr]
      exact qr_h hR (by unfold A_stands; simp only [← e39]; rw [if_neg (by omega)]; rfl)
    · skip
      simp only [bi_eq, bi_ne] at h12
      refine ks_aload_n (n := 16) S dX5_stands_15 rfl rfl ?_
      refine ks_iconst (n := 17) S dX5_stands_16 rfl (by unfold iv; decide) ?_
      refine kf_v1i (n := 20) S dX5_stands_17 rfl ml_X5_38 ym_X5_no (ev_X5_no (by omega)) (by decide) rfl (Nat.le_of_ble_eq_true rfl) ?_
      refine ks_iret S dX5_stands_20 ?_
      first | exact qr_r hR (by unfold A_stands; (try simp only [← e39]); (repeat' split) <;> first | rfl | omega | (congr 1; omega)) | exact qr_a hR (by unfold A_stands; (try simp only [← e39]); (repeat' split) <;> first | rfl | omega | (congr 1; omega))
def A_turn (M : KS) (d k f : Int) : Int × KS := if ¬ (0 ≤ d ∧ d < M 39 0) then (-1, rfM M (-1)) else if ¬ (0 ≤ k ∧ k < 6) then (-2, rfM M (-2)) else if f < 0 then (-4, rfM M (-4)) else if 9 < f then (-6, rfM M (-6)) else (10 * aD (M 39) d 0 + aD (M 39) d 1, mH M (ru (ru (M 39) (3 + 6 * d + 0) k) (3 + 6 * d + 1) f))
theorem pc_turn {d k f : Int} (hM : OkM M) (hC : RC σ M) : Ev l yX4_turn cX4_turn 6 (some .int) 1 22 [kr 0, ki d, ki k, ki f] σ (QC (A_turn M d k f) σ) := by
  have R := hC.1
  have ok := hM.1
  have n9 := ok.1
  have n6 := ok.2.1
  refine ev_intro ym_X4_turn.1 (Nat.le_of_ble_eq_true rfl) (fun hv hσ K S => ?_)
  have hv := hv
  show K 0 [some (kr 0), some (ki d), some (ki k), some (ki f), none, none] [] σ
  refine ks_aload_n (n := 1) S dX4_turn_0 rfl rfl ?_
  refine ks_getr (n := 4) S dX4_turn_1 rfl fl_X4_10 rfl rfl ?_
  refine ks_iload_n (n := 5) S dX4_turn_4 rfl rfl ?_
  refine kf_v1z (n := 8) S dX4_turn_5 rfl ml_X4_74 ym_X0_hasDoor (ev_X0_hasDoor kq_H1 R) (by decide) kq_H1.o (Nat.le_of_ble_eq_true rfl) ?_
  refine ks_if_ne (n := 11) (tgt := 17) S dX4_turn_8 rfl rfl (fun h8 => ?_) (fun h8 => ?_)
  · skip
    simp only [bi_eq, bi_ne] at h8
    obtain ⟨e1, e2, e3, e4, e5, e6⟩ := R.2.2.2.1 d (by omega) (by omega)
    obtain ⟨o1, o2, o3, o4, o5, o6, o7, o8⟩ := ok.2.2.2.1 d (by omega) (by omega)
    refine ks_iload_n (n := 18) S dX4_turn_17 rfl rfl ?_
    refine ks_if_lt (n := 21) (tgt := 27) S dX4_turn_18 rfl rfl (fun h18 => ?_) (fun h18 => ?_)
    · skip
      refine ks_aload_n (n := 28) S dX4_turn_27 rfl rfl ?_
      refine ks_bipush (n := 30) S dX4_turn_28 rfl (by unfold iv; decide) ?_
      refine kf_v1i (n := 33) S dX4_turn_30 rfl ml_X4_51 ym_X4_refuse (ev_X4_refuse (by omega)) (by decide) rfl (Nat.le_of_ble_eq_true rfl) ?_
      refine ks_iret S dX4_turn_33 ?_
      first | exact qc_r hC (by omega) (by unfold A_turn; (repeat' split) <;> first | rfl | omega | (congr 1; omega)) | exact qc_a hC (by unfold A_turn; (repeat' split) <;> first | rfl | omega | (congr 1; omega))
    · skip
      refine ks_iload_n (n := 22) S dX4_turn_21 rfl rfl ?_
      refine ks_bipush (n := 24) S dX4_turn_22 rfl (by unfold iv; decide) ?_
      refine ks_icmp_lt (n := 27) (tgt := 34) S dX4_turn_24 rfl rfl (fun h24 => ?_) (fun h24 => ?_)
      · skip
        refine ks_iload_n (n := 35) S dX4_turn_34 rfl rfl ?_
        refine ks_iconst (n := 36) S dX4_turn_35 rfl (by unfold iv; decide) ?_
        refine ks_bipush (n := 38) S dX4_turn_36 rfl (by unfold iv; decide) ?_
        refine kf_s3i (n := 41) S dX4_turn_38 rfl ml_X4_122 ym_X4_outside (ev_X4_outside) (by decide) (Nat.le_of_ble_eq_true rfl) ?_
        rcases m_out f 0 9 with ⟨hc38, hw38⟩ | ⟨hc38, hd38, hw38⟩ | ⟨hc38, hd38, hw38⟩
        · skip
          rw [hw38]
          refine ks_istore (n := 43) S dX4_turn_41 rfl (L' := fun y => [some (kr 0), some (ki d), some (ki k), some (ki f), some (ki y), none]) (Nat.le_of_ble_eq_true rfl) (fun _ => rfl) (fun v4_41 hv41 => ?_)
          subst hv41
          refine ks_iload (n := 45) S dX4_turn_43 rfl rfl ?_
          refine ks_if_ge (n := 48) (tgt := 55) S dX4_turn_45 rfl rfl (fun h45 => ?_) (fun h45 => ?_)
          · omega
          refine ks_aload_n (n := 49) S dX4_turn_48 rfl rfl ?_
          refine ks_iload (n := 51) S dX4_turn_49 rfl rfl ?_
          refine kf_v1i (n := 54) S dX4_turn_51 rfl ml_X4_51 ym_X4_refuse (ev_X4_refuse (by omega)) (by decide) rfl (Nat.le_of_ble_eq_true rfl) ?_
          refine ks_iret S dX4_turn_54 ?_
          first | exact qc_r hC (by omega) (by unfold A_turn; (repeat' split) <;> first | rfl | omega | (congr 1; omega)) | exact qc_a hC (by unfold A_turn; (repeat' split) <;> first | rfl | omega | (congr 1; omega))
        · skip
          rw [hw38]
          refine ks_istore (n := 43) S dX4_turn_41 rfl (L' := fun y => [some (kr 0), some (ki d), some (ki k), some (ki f), some (ki y), none]) (Nat.le_of_ble_eq_true rfl) (fun _ => rfl) (fun v4_41 hv41 => ?_)
          subst hv41
          refine ks_iload (n := 45) S dX4_turn_43 rfl rfl ?_
          refine ks_if_ge (n := 48) (tgt := 55) S dX4_turn_45 rfl rfl (fun h45 => ?_) (fun h45 => ?_)
          · omega
          refine ks_aload_n (n := 49) S dX4_turn_48 rfl rfl ?_
          refine ks_iload (n := 51) S dX4_turn_49 rfl rfl ?_
          refine kf_v1i (n := 54) S dX4_turn_51 rfl ml_X4_51 ym_X4_refuse (ev_X4_refuse (by omega)) (by decide) rfl (Nat.le_of_ble_eq_true rfl) ?_
          refine ks_iret S dX4_turn_54 ?_
          first | exact qc_r hC (by omega) (by unfold A_turn; (repeat' split) <;> first | rfl | omega | (congr 1; omega)) | exact qc_a hC (by unfold A_turn; (repeat' split) <;> first | rfl | omega | (congr 1; omega))
        · skip
          rw [hw38]
          refine ks_istore (n := 43) S dX4_turn_41 rfl (L' := fun y => [some (kr 0), some (ki d), some (ki k), some (ki f), some (ki y), none]) (Nat.le_of_ble_eq_true rfl) (fun _ => rfl) (fun v4_41 hv41 => ?_)
          subst hv41
          refine ks_iload (n := 45) S dX4_turn_43 rfl rfl ?_
          refine ks_if_ge (n := 48) (tgt := 55) S dX4_turn_45 rfl rfl (fun h45 => ?_) (fun h45 => ?_)
          rotate_left
          · omega
          refine ks_bipush (n := 57) S dX4_turn_55 rfl (by unfold iv; decide) ?_
          refine ks_aload_n (n := 58) S dX4_turn_57 rfl rfl ?_
          refine ks_getr (n := 61) S dX4_turn_58 rfl fl_X4_10 rfl rfl ?_
          refine ks_getr (n := 64) S dX4_turn_61 rfl fl_X4_78 kq_H1.o rfl ?_
          refine ks_iload_n (n := 65) S dX4_turn_64 rfl rfl ?_
          refine ks_iaload (n := 66) S dX4_turn_65 rfl kq_H1.a1 (by omega) ?_
          refine ks_imul (n := 67) S dX4_turn_66 rfl (by omega) ?_
          refine ks_aload_n (n := 68) S dX4_turn_67 rfl rfl ?_
          refine ks_getr (n := 71) S dX4_turn_68 rfl fl_X4_10 rfl rfl ?_
          refine ks_getr (n := 74) S dX4_turn_71 rfl fl_X4_81 kq_H1.o rfl ?_
          refine ks_iload_n (n := 75) S dX4_turn_74 rfl rfl ?_
          refine ks_iaload (n := 76) S dX4_turn_75 rfl kq_H1.a2 (by omega) ?_
          refine ks_iadd (n := 77) S dX4_turn_76 rfl (by omega) ?_
          refine ks_istore (n := 79) S dX4_turn_77 rfl (L' := fun y => [some (kr 0), some (ki d), some (ki k), some (ki f), some (ki _), some (ki y)]) (Nat.le_of_ble_eq_true rfl) (fun _ => rfl) (fun v5_77 hv77 => ?_)
          subst hv77
          refine ks_aload_n (n := 80) S dX4_turn_79 rfl rfl ?_
          refine ks_getr (n := 83) S dX4_turn_80 rfl fl_X4_10 rfl rfl ?_
          refine ks_getr (n := 86) S dX4_turn_83 rfl fl_X4_78 kq_H1.o rfl ?_
          refine ks_iload_n (n := 87) S dX4_turn_86 rfl rfl ?_
          refine ks_iload_n (n := 88) S dX4_turn_87 rfl rfl ?_
          refine ks_iastore (n := 89) S dX4_turn_88 rfl kq_H1.a1 (by omega) ?_
          refine ks_aload_n (n := 90) S dX4_turn_89 rfl rfl ?_
          refine ks_getr (n := 93) S dX4_turn_90 rfl fl_X4_10 rfl rfl ?_
          refine ks_getr (n := 96) S dX4_turn_93 rfl fl_X4_81 kq_H1.o rfl ?_
          refine ks_iload_n (n := 97) S dX4_turn_96 rfl rfl ?_
          refine ks_iload_n (n := 98) S dX4_turn_97 rfl rfl ?_
          refine ks_iastore (n := 99) S dX4_turn_98 rfl kq_H1.a2 (by omega) ?_
          refine ks_iload (n := 101) S dX4_turn_99 rfl rfl ?_
          refine ks_iret S dX4_turn_101 ?_
          exact qc_h hC ((FrH.rf.up (by omega) (by omega)).up (by omega) (by omega)) ((R.uD0 (by omega)).uD1 (by omega)) (by unfold A_turn; rw [if_neg (by omega), if_neg (by omega), if_neg (by omega), if_neg (by omega), e1, e2])
      · skip
        refine ks_aload_n (n := 28) S dX4_turn_27 rfl rfl ?_
        refine ks_bipush (n := 30) S dX4_turn_28 rfl (by unfold iv; decide) ?_
        refine kf_v1i (n := 33) S dX4_turn_30 rfl ml_X4_51 ym_X4_refuse (ev_X4_refuse (by omega)) (by decide) rfl (Nat.le_of_ble_eq_true rfl) ?_
        refine ks_iret S dX4_turn_33 ?_
        first | exact qc_r hC (by omega) (by unfold A_turn; (repeat' split) <;> first | rfl | omega | (congr 1; omega)) | exact qc_a hC (by unfold A_turn; (repeat' split) <;> first | rfl | omega | (congr 1; omega))
  · skip
    simp only [bi_eq, bi_ne] at h8
    refine ks_aload_n (n := 12) S dX4_turn_11 rfl rfl ?_
    refine ks_iconst (n := 13) S dX4_turn_12 rfl (by unfold iv; decide) ?_
    refine kf_v1i (n := 16) S dX4_turn_13 rfl ml_X4_51 ym_X4_refuse (ev_X4_refuse (by omega)) (by decide) rfl (Nat.le_of_ble_eq_true rfl) ?_
    refine ks_iret S dX4_turn_16 ?_
    first | exact qc_r hC (by omega) (by unfold A_turn; (repeat' split) <;> first | rfl | omega | (congr 1; omega)) | exact qc_a hC (by unfold A_turn; (repeat' split) <;> first | rfl | omega | (congr 1; omega))
theorem pr_turn {d k f : Int} (hM : OkM M) (hR : RR σ M) : Ev l yX5_turn cX5_turn 6 (some .int) 2 43 [kr 38, ki d, ki k, ki f] σ (QR (A_turn M d k f) σ) := by
  have e39 : σ 39 = M 39 := hR.1
  have ok : OkR (σ 39) := by rw [e39]; exact hM.1
  have n9 := ok.1
  have n6 := ok.2.1
  refine ev_intro ym_X5_turn.1 (Nat.le_of_ble_eq_true rfl) (fun hv hσ K S => ?_)
  have hv := hv
  show K 0 [some (kr 38), some (ki d), some (ki k), some (ki f), none, none] [] σ
  refine ks_aload_n (n := 1) S dX5_turn_0 rfl rfl ?_
  refine ks_iload_n (n := 2) S dX5_turn_1 rfl rfl ?_
  refine kf_v1z (n := 5) S dX5_turn_2 rfl ml_X5_120 ym_X5_isDoor (ev_X5_isDoor n9) (by decide) rfl (Nat.le_of_ble_eq_true rfl) ?_
  refine ks_if_ne (n := 8) (tgt := 12) S dX5_turn_5 rfl rfl (fun h5 => ?_) (fun h5 => ?_)
  · skip
    simp only [bi_eq, bi_ne] at h5
    refine ks_iload_n (n := 13) S dX5_turn_12 rfl rfl ?_
    refine ks_iconst (n := 14) S dX5_turn_13 rfl (by unfold iv; decide) ?_
    refine ks_iconst (n := 15) S dX5_turn_14 rfl (by unfold iv; decide) ?_
    refine kf_s3z (n := 18) S dX5_turn_15 rfl ml_X5_44 ym_X5_isIn (ev_X5_isIn) (by decide) (Nat.le_of_ble_eq_true rfl) ?_
    refine ks_if_ne (n := 21) (tgt := 26) S dX5_turn_18 rfl rfl (fun h18 => ?_) (fun h18 => ?_)
    · skip
      simp only [bi_eq, bi_ne] at h18
      refine ks_iload_n (n := 27) S dX5_turn_26 rfl rfl ?_
      refine ks_iconst (n := 28) S dX5_turn_27 rfl (by unfold iv; decide) ?_
      refine ks_bipush (n := 30) S dX5_turn_28 rfl (by unfold iv; decide) ?_
      refine kf_s3i (n := 33) S dX5_turn_30 rfl ml_X5_144 ym_X5_wrongBy (ev_X5_wrongBy) (by decide) (Nat.le_of_ble_eq_true rfl) ?_
      rcases m_out f 0 9 with ⟨hc30, hw30⟩ | ⟨hc30, hd30, hw30⟩ | ⟨hc30, hd30, hw30⟩
      · skip
        rw [hw30]
        refine ks_istore (n := 35) S dX5_turn_33 rfl (L' := fun y => [some (kr 38), some (ki d), some (ki k), some (ki f), some (ki y), none]) (Nat.le_of_ble_eq_true rfl) (fun _ => rfl) (fun v4_33 hv33 => ?_)
        subst hv33
        refine ks_iload (n := 37) S dX5_turn_35 rfl rfl ?_
        refine ks_if_eq (n := 40) (tgt := 47) S dX5_turn_37 rfl rfl (fun h37 => ?_) (fun h37 => ?_)
        · omega
        refine ks_aload_n (n := 41) S dX5_turn_40 rfl rfl ?_
        refine ks_iload (n := 43) S dX5_turn_41 rfl rfl ?_
        refine kf_v1i (n := 46) S dX5_turn_43 rfl ml_X5_38 ym_X5_no (ev_X5_no (by omega)) (by decide) rfl (Nat.le_of_ble_eq_true rfl) ?_
        refine ks_iret S dX5_turn_46 ?_
        first | exact qr_r hR (by unfold A_turn; (try simp only [← e39]); (repeat' split) <;> first | rfl | omega | (congr 1; omega)) | exact qr_a hR (by unfold A_turn; (try simp only [← e39]); (repeat' split) <;> first | rfl | omega | (congr 1; omega))
      · skip
        rw [hw30]
        refine ks_istore (n := 35) S dX5_turn_33 rfl (L' := fun y => [some (kr 38), some (ki d), some (ki k), some (ki f), some (ki y), none]) (Nat.le_of_ble_eq_true rfl) (fun _ => rfl) (fun v4_33 hv33 => ?_)
        subst hv33
        refine ks_iload (n := 37) S dX5_turn_35 rfl rfl ?_
        refine ks_if_eq (n := 40) (tgt := 47) S dX5_turn_37 rfl rfl (fun h37 => ?_) (fun h37 => ?_)
        · omega
        refine ks_aload_n (n := 41) S dX5_turn_40 rfl rfl ?_
        refine ks_iload (n := 43) S dX5_turn_41 rfl rfl ?_
        refine kf_v1i (n := 46) S dX5_turn_43 rfl ml_X5_38 ym_X5_no (ev_X5_no (by omega)) (by decide) rfl (Nat.le_of_ble_eq_true rfl) ?_
        refine ks_iret S dX5_turn_46 ?_
        first | exact qr_r hR (by unfold A_turn; (try simp only [← e39]); (repeat' split) <;> first | rfl | omega | (congr 1; omega)) | exact qr_a hR (by unfold A_turn; (try simp only [← e39]); (repeat' split) <;> first | rfl | omega | (congr 1; omega))
      · skip
        rw [hw30]
        refine ks_istore (n := 35) S dX5_turn_33 rfl (L' := fun y => [some (kr 38), some (ki d), some (ki k), some (ki f), some (ki y), none]) (Nat.le_of_ble_eq_true rfl) (fun _ => rfl) (fun v4_33 hv33 => ?_)
        subst hv33
        refine ks_iload (n := 37) S dX5_turn_35 rfl rfl ?_
        refine ks_if_eq (n := 40) (tgt := 47) S dX5_turn_37 rfl rfl (fun h37 => ?_) (fun h37 => ?_)
        rotate_left
        · omega
        obtain ⟨o1, o2, o3, o4, o5, o6, o7, o8⟩ := ok.2.2.2.1 d (by omega) (by omega)
        have e1 : aD (σ 39) d 0 = σ 39 (3 + 6 * d + 0) := rfl
        have e2 : aD (σ 39) d 1 = σ 39 (3 + 6 * d + 1) := rfl
        refine ks_bipush (n := 49) S dX5_turn_47 rfl (by unfold iv; decide) ?_
        refine ks_aload_n (n := 50) S dX5_turn_49 rfl rfl ?_
        refine ks_getr (n := 53) S dX5_turn_50 rfl fl_X5_9 rfl rfl ?_
        refine ks_iload_n (n := 54) S dX5_turn_53 rfl rfl ?_
        refine ks_iconst (n := 55) S dX5_turn_54 rfl (by unfold iv; decide) ?_
        refine kf_s2i (n := 58) S dX5_turn_55 rfl ml_X5_48 ym_X5_ofD (ev_X5_ofD (by omega) (by omega)) (by decide) (Nat.le_of_ble_eq_true rfl) ?_
        refine ks_iaload (n := 59) S dX5_turn_58 rfl rfl (by omega) ?_
        refine ks_imul (n := 60) S dX5_turn_59 rfl (by omega) ?_
        refine ks_aload_n (n := 61) S dX5_turn_60 rfl rfl ?_
        refine ks_getr (n := 64) S dX5_turn_61 rfl fl_X5_9 rfl rfl ?_
        refine ks_iload_n (n := 65) S dX5_turn_64 rfl rfl ?_
        refine ks_iconst (n := 66) S dX5_turn_65 rfl (by unfold iv; decide) ?_
        refine kf_s2i (n := 69) S dX5_turn_66 rfl ml_X5_48 ym_X5_ofD (ev_X5_ofD (by omega) (by omega)) (by decide) (Nat.le_of_ble_eq_true rfl) ?_
        refine ks_iaload (n := 70) S dX5_turn_69 rfl rfl (by omega) ?_
        refine ks_iadd (n := 71) S dX5_turn_70 rfl (by omega) ?_
        refine ks_istore (n := 73) S dX5_turn_71 rfl (L' := fun y => [some (kr 38), some (ki d), some (ki k), some (ki f), some (ki _), some (ki y)]) (Nat.le_of_ble_eq_true rfl) (fun _ => rfl) (fun v5_71 hv71 => ?_)
        subst hv71
        refine ks_aload_n (n := 74) S dX5_turn_73 rfl rfl ?_
        refine ks_getr (n := 77) S dX5_turn_74 rfl fl_X5_9 rfl rfl ?_
        refine ks_iload_n (n := 78) S dX5_turn_77 rfl rfl ?_
        refine ks_iconst (n := 79) S dX5_turn_78 rfl (by unfold iv; decide) ?_
        refine kf_s2i (n := 82) S dX5_turn_79 rfl ml_X5_48 ym_X5_ofD (ev_X5_ofD (by omega) (by omega)) (by decide) (Nat.le_of_ble_eq_true rfl) ?_
        refine ks_iload_n (n := 83) S dX5_turn_82 rfl rfl ?_
        refine ks_iastore (n := 84) S dX5_turn_83 rfl rfl (by omega) ?_
        refine ks_aload_n (n := 85) S dX5_turn_84 rfl rfl ?_
        refine ks_getr (n := 88) S dX5_turn_85 rfl fl_X5_9 rfl rfl ?_
        refine ks_iload_n (n := 89) S dX5_turn_88 rfl rfl ?_
        refine ks_iconst (n := 90) S dX5_turn_89 rfl (by unfold iv; decide) ?_
        refine kf_s2i (n := 93) S dX5_turn_90 rfl ml_X5_48 ym_X5_ofD (ev_X5_ofD (by omega) (by omega)) (by decide) (Nat.le_of_ble_eq_true rfl) ?_
        refine ks_iload_n (n := 94) S dX5_turn_93 rfl rfl ?_
        refine ks_iastore (n := 95) S dX5_turn_94 rfl rfl (by omega) ?_
        refine ks_iload (n := 97) S dX5_turn_95 rfl rfl ?_
        refine ks_iret S dX5_turn_97 ?_
        rw [kq_up_sr, kq_up_sr, sr_sr, sr_r]
        exact qr_h hR (by unfold A_turn; simp only [← e39]; rw [if_neg (by omega), if_neg (by omega), if_neg (by omega), if_neg (by omega)]; rfl)
    · skip
      simp only [bi_eq, bi_ne] at h18
      refine ks_bipush (n := 23) S dX5_turn_21 rfl (by unfold iv; decide) ?_
      refine ks_goto (n := 33) S dX5_turn_23 rfl ?_
      refine ks_istore (n := 35) S dX5_turn_33 rfl (L' := fun y => [some (kr 38), some (ki d), some (ki k), some (ki f), some (ki y), none]) (Nat.le_of_ble_eq_true rfl) (fun _ => rfl) (fun v4_33 hv33 => ?_)
      subst hv33
      refine ks_iload (n := 37) S dX5_turn_35 rfl rfl ?_
      refine ks_if_eq (n := 40) (tgt := 47) S dX5_turn_37 rfl rfl (fun h37 => ?_) (fun h37 => ?_)
      · omega
      refine ks_aload_n (n := 41) S dX5_turn_40 rfl rfl ?_
      refine ks_iload (n := 43) S dX5_turn_41 rfl rfl ?_
      refine kf_v1i (n := 46) S dX5_turn_43 rfl ml_X5_38 ym_X5_no (ev_X5_no (by omega)) (by decide) rfl (Nat.le_of_ble_eq_true rfl) ?_
      refine ks_iret S dX5_turn_46 ?_
      first | exact qr_r hR (by unfold A_turn; (try simp only [← e39]); (repeat' split) <;> first | rfl | omega | (congr 1; omega)) | exact qr_a hR (by unfold A_turn; (try simp only [← e39]); (repeat' split) <;> first | rfl | omega | (congr 1; omega))
  · skip
    simp only [bi_eq, bi_ne] at h5
    refine ks_iconst (n := 9) S dX5_turn_8 rfl (by unfold iv; decide) ?_
    refine ks_goto (n := 33) S dX5_turn_9 rfl ?_
    refine ks_istore (n := 35) S dX5_turn_33 rfl (L' := fun y => [some (kr 38), some (ki d), some (ki k), some (ki f), some (ki y), none]) (Nat.le_of_ble_eq_true rfl) (fun _ => rfl) (fun v4_33 hv33 => ?_)
    subst hv33
    refine ks_iload (n := 37) S dX5_turn_35 rfl rfl ?_
    refine ks_if_eq (n := 40) (tgt := 47) S dX5_turn_37 rfl rfl (fun h37 => ?_) (fun h37 => ?_)
    · omega
    refine ks_aload_n (n := 41) S dX5_turn_40 rfl rfl ?_
    refine ks_iload (n := 43) S dX5_turn_41 rfl rfl ?_
    refine kf_v1i (n := 46) S dX5_turn_43 rfl ml_X5_38 ym_X5_no (ev_X5_no (by omega)) (by decide) rfl (Nat.le_of_ble_eq_true rfl) ?_
    refine ks_iret S dX5_turn_46 ?_
    first | exact qr_r hR (by unfold A_turn; (try simp only [← e39]); (repeat' split) <;> first | rfl | omega | (congr 1; omega)) | exact qr_a hR (by unfold A_turn; (try simp only [← e39]); (repeat' split) <;> first | rfl | omega | (congr 1; omega))
def A_hours (M : KS) (n : Int) : Int × KS := if n < 1 then (-4, rfM M (-4)) else if 60 < n ∨ 999 < M 39 2 + n then (-6, rfM M (-6)) else (m_allH (m_hours (M 39) n.toNat), mH M (m_hours (M 39) n.toNat))
theorem pc_hours {n : Int} (hM : OkM M) (hC : RC σ M) : Ev l yX4_hours cX4_hours 3 (some .int) 3 66 [kr 0, ki n] σ (QC (A_hours M n) σ) := by
  have R := hC.1
  have ok := hM.1
  have n9 := ok.1
  have n6 := ok.2.1
  refine ev_intro ym_X4_hours.1 (Nat.le_of_ble_eq_true rfl) (fun hv hσ K S => ?_)
  have hv := hv
  show K 0 [some (kr 0), some (ki n), none] [] σ
  refine ks_iload_n (n := 1) S dX4_hours_0 rfl rfl ?_
  refine ks_iconst (n := 2) S dX4_hours_1 rfl (by unfold iv; decide) ?_
  refine ks_bipush (n := 4) S dX4_hours_2 rfl (by unfold iv; decide) ?_
  refine kf_s3i (n := 7) S dX4_hours_4 rfl ml_X4_122 ym_X4_outside (ev_X4_outside) (by decide) (Nat.le_of_ble_eq_true rfl) ?_
  rcases m_out n 1 60 with ⟨hc4, hw4⟩ | ⟨hc4, hd4, hw4⟩ | ⟨hc4, hd4, hw4⟩
  · skip
    rw [hw4]
    refine ks_istore_n (n := 8) S dX4_hours_7 rfl rfl (L' := fun y => [some (kr 0), some (ki n), some (ki y)]) (Nat.le_of_ble_eq_true rfl) (fun _ => rfl) (fun v2_7 hv7 => ?_)
    subst hv7
    refine ks_iload_n (n := 9) S dX4_hours_8 rfl rfl ?_
    refine ks_if_ge (n := 12) (tgt := 18) S dX4_hours_9 rfl rfl (fun h9 => ?_) (fun h9 => ?_)
    · omega
    refine ks_aload_n (n := 13) S dX4_hours_12 rfl rfl ?_
    refine ks_iload_n (n := 14) S dX4_hours_13 rfl rfl ?_
    refine kf_v1i (n := 17) S dX4_hours_14 rfl ml_X4_51 ym_X4_refuse (ev_X4_refuse (by omega)) (by decide) rfl (Nat.le_of_ble_eq_true rfl) ?_
    refine ks_iret S dX4_hours_17 ?_
    first | exact qc_r hC (by omega) (by unfold A_hours; (repeat' split) <;> first | rfl | omega | (congr 1; omega)) | exact qc_a hC (by unfold A_hours; (repeat' split) <;> first | rfl | omega | (congr 1; omega))
  · skip
    rw [hw4]
    refine ks_istore_n (n := 8) S dX4_hours_7 rfl rfl (L' := fun y => [some (kr 0), some (ki n), some (ki y)]) (Nat.le_of_ble_eq_true rfl) (fun _ => rfl) (fun v2_7 hv7 => ?_)
    subst hv7
    refine ks_iload_n (n := 9) S dX4_hours_8 rfl rfl ?_
    refine ks_if_ge (n := 12) (tgt := 18) S dX4_hours_9 rfl rfl (fun h9 => ?_) (fun h9 => ?_)
    · omega
    refine ks_aload_n (n := 13) S dX4_hours_12 rfl rfl ?_
    refine ks_iload_n (n := 14) S dX4_hours_13 rfl rfl ?_
    refine kf_v1i (n := 17) S dX4_hours_14 rfl ml_X4_51 ym_X4_refuse (ev_X4_refuse (by omega)) (by decide) rfl (Nat.le_of_ble_eq_true rfl) ?_
    refine ks_iret S dX4_hours_17 ?_
    first | exact qc_r hC (by omega) (by unfold A_hours; (repeat' split) <;> first | rfl | omega | (congr 1; omega)) | exact qc_a hC (by unfold A_hours; (repeat' split) <;> first | rfl | omega | (congr 1; omega))
  · skip
    rw [hw4]
    refine ks_istore_n (n := 8) S dX4_hours_7 rfl rfl (L' := fun y => [some (kr 0), some (ki n), some (ki y)]) (Nat.le_of_ble_eq_true rfl) (fun _ => rfl) (fun v2_7 hv7 => ?_)
    subst hv7
    refine ks_iload_n (n := 9) S dX4_hours_8 rfl rfl ?_
    refine ks_if_ge (n := 12) (tgt := 18) S dX4_hours_9 rfl rfl (fun h9 => ?_) (fun h9 => ?_)
    rotate_left
    · omega
    have s11 : σ 1 11 = M 39 2 := R.2.2.1
    have o2 := ok.2.2.1
    refine ks_aload_n (n := 19) S dX4_hours_18 rfl rfl ?_
    refine ks_getr (n := 22) S dX4_hours_19 rfl fl_X4_10 rfl rfl ?_
    refine ks_getI (n := 25) (fi := 11) S dX4_hours_22 rfl fl_X4_133 kq_H1.o rfl rfl ?_
    refine ks_iload_n (n := 26) S dX4_hours_25 rfl rfl ?_
    refine ks_iadd (n := 27) S dX4_hours_26 rfl (by omega) ?_
    refine ks_sipush (n := 30) S dX4_hours_27 rfl (by unfold iv; decide) ?_
    refine ks_icmp_le (n := 33) (tgt := 40) S dX4_hours_30 rfl rfl (fun h30 => ?_) (fun h30 => ?_)
    · skip
      obtain ⟨P1, P2⟩ := m_hours_pass ok n.toNat (by omega)
      rw [show ((n.toNat : Nat) : Int) = n by omega] at P1
      refine ks_aload_n (n := 41) S dX4_hours_40 rfl rfl ?_
      refine ks_getr (n := 44) S dX4_hours_41 rfl fl_X4_10 rfl rfl ?_
      refine ks_iload_n (n := 45) S dX4_hours_44 rfl rfl ?_
      refine ks_v1v (n := 48) S dX4_hours_45 rfl ml_X4_136 ym_X0_pass (ev_X0_pass kq_H1 R ok (by omega) P1) (by decide) kq_H1.o (Nat.le_of_ble_eq_true rfl) (fun τ45 q45 => ?_)
      obtain ⟨-, R2, F2⟩ := q45
      refine ks_aload_n (n := 49) S dX4_hours_48 rfl rfl ?_
      refine ks_getr (n := 52) S dX4_hours_49 rfl fl_X4_10 rfl rfl ?_
      refine kf_v0i (n := 55) S dX4_hours_52 rfl ml_X4_139 ym_X0_allHeat (ev_X0_allHeat kq_H1 R2 P2) (by decide) kq_H1.o (Nat.le_of_ble_eq_true rfl) ?_
      refine ks_iret S dX4_hours_55 ?_
      exact qc_h hC F2 R2 (by unfold A_hours; rw [if_neg (by omega), if_neg (by omega)])
    · skip
      refine ks_aload_n (n := 34) S dX4_hours_33 rfl rfl ?_
      refine ks_bipush (n := 36) S dX4_hours_34 rfl (by unfold iv; decide) ?_
      refine kf_v1i (n := 39) S dX4_hours_36 rfl ml_X4_51 ym_X4_refuse (ev_X4_refuse (by omega)) (by decide) rfl (Nat.le_of_ble_eq_true rfl) ?_
      refine ks_iret S dX4_hours_39 ?_
      first | exact qc_r hC (by omega) (by unfold A_hours; (repeat' split) <;> first | rfl | omega | (congr 1; omega)) | exact qc_a hC (by unfold A_hours; (repeat' split) <;> first | rfl | omega | (congr 1; omega))
theorem pr_hours {n : Int} (hM : OkM M) (hR : RR σ M) : Ev l yX5_hours cX5_hours 2 (some .int) 4 86 [kr 38, ki n] σ (QR (A_hours M n) σ) := by
  have e39 : σ 39 = M 39 := hR.1
  have ok : OkR (σ 39) := by rw [e39]; exact hM.1
  have n9 := ok.1
  have n6 := ok.2.1
  refine ev_intro ym_X5_hours.1 (Nat.le_of_ble_eq_true rfl) (fun hv hσ K S => ?_)
  have hv := hv
  show K 0 [some (kr 38), some (ki n)] [] σ
  refine ks_iload_n (n := 1) S dX5_hours_0 rfl rfl ?_
  refine ks_iconst (n := 2) S dX5_hours_1 rfl (by unfold iv; decide) ?_
  refine ks_icmp_ge (n := 5) (tgt := 12) S dX5_hours_2 rfl rfl (fun h2 => ?_) (fun h2 => ?_)
  · skip
    have o2 := ok.2.2.1
    refine ks_iload_n (n := 13) S dX5_hours_12 rfl rfl ?_
    refine ks_bipush (n := 15) S dX5_hours_13 rfl (by unfold iv; decide) ?_
    refine ks_icmp_gt (n := 18) (tgt := 32) S dX5_hours_15 rfl rfl (fun h15 => ?_) (fun h15 => ?_)
    · skip
      refine ks_aload_n (n := 33) S dX5_hours_32 rfl rfl ?_
      refine ks_bipush (n := 35) S dX5_hours_33 rfl (by unfold iv; decide) ?_
      refine kf_v1i (n := 38) S dX5_hours_35 rfl ml_X5_38 ym_X5_no (ev_X5_no (by omega)) (by decide) rfl (Nat.le_of_ble_eq_true rfl) ?_
      refine ks_iret S dX5_hours_38 ?_
      first | exact qr_r hR (by unfold A_hours; (try simp only [← e39]); (repeat' split) <;> first | rfl | omega | (congr 1; omega)) | exact qr_a hR (by unfold A_hours; (try simp only [← e39]); (repeat' split) <;> first | rfl | omega | (congr 1; omega))
    · skip
      refine ks_aload_n (n := 19) S dX5_hours_18 rfl rfl ?_
      refine ks_getr (n := 22) S dX5_hours_19 rfl fl_X5_9 rfl rfl ?_
      refine ks_iconst (n := 23) S dX5_hours_22 rfl (by unfold iv; decide) ?_
      refine ks_iaload (n := 24) S dX5_hours_23 rfl rfl (by omega) ?_
      refine ks_iload_n (n := 25) S dX5_hours_24 rfl rfl ?_
      refine ks_iadd (n := 26) S dX5_hours_25 rfl (by omega) ?_
      refine ks_sipush (n := 29) S dX5_hours_26 rfl (by unfold iv; decide) ?_
      refine ks_icmp_le (n := 32) (tgt := 39) S dX5_hours_29 rfl rfl (fun h29 => ?_) (fun h29 => ?_)
      · skip
        obtain ⟨P1, P2⟩ := m_hours_pass ok n.toNat (by omega)
        refine ks_aload_n (n := 40) S dX5_hours_39 rfl rfl ?_
        refine ks_getr (n := 43) S dX5_hours_40 rfl fl_X5_9 rfl rfl ?_
        refine ks_iload_n (n := 44) S dX5_hours_43 rfl rfl ?_
        refine kf_s2v (n := 47) S dX5_hours_44 rfl ml_X5_130 ym_X5_hoursOn (ev_X5_hoursOn rfl ok (by omega) (by omega)) (by decide) (Nat.le_of_ble_eq_true rfl) ?_
        refine ks_aload_n (n := 48) S dX5_hours_47 rfl rfl ?_
        refine ks_getr (n := 51) S dX5_hours_48 rfl fl_X5_9 rfl rfl ?_
        refine kf_s1i (n := 54) S dX5_hours_51 rfl ml_X5_148 ym_X5_allHeat (ev_X5_allHeat rfl (by rw [sr_r]; exact P2)) (by decide) (Nat.le_of_ble_eq_true rfl) ?_
        refine ks_iret S dX5_hours_54 ?_
        rw [sr_r]
        exact qr_h hR (by unfold A_hours; simp only [← e39]; rw [if_neg (by omega), if_neg (by omega)])
      · skip
        refine ks_aload_n (n := 33) S dX5_hours_32 rfl rfl ?_
        refine ks_bipush (n := 35) S dX5_hours_33 rfl (by unfold iv; decide) ?_
        refine kf_v1i (n := 38) S dX5_hours_35 rfl ml_X5_38 ym_X5_no (ev_X5_no (by omega)) (by decide) rfl (Nat.le_of_ble_eq_true rfl) ?_
        refine ks_iret S dX5_hours_38 ?_
        first | exact qr_r hR (by unfold A_hours; (try simp only [← e39]); (repeat' split) <;> first | rfl | omega | (congr 1; omega)) | exact qr_a hR (by unfold A_hours; (try simp only [← e39]); (repeat' split) <;> first | rfl | omega | (congr 1; omega))
  · skip
    refine ks_aload_n (n := 6) S dX5_hours_5 rfl rfl ?_
    refine ks_bipush (n := 8) S dX5_hours_6 rfl (by unfold iv; decide) ?_
    refine kf_v1i (n := 11) S dX5_hours_8 rfl ml_X5_38 ym_X5_no (ev_X5_no (by omega)) (by decide) rfl (Nat.le_of_ble_eq_true rfl) ?_
    refine ks_iret S dX5_hours_11 ?_
    first | exact qr_r hR (by unfold A_hours; (try simp only [← e39]); (repeat' split) <;> first | rfl | omega | (congr 1; omega)) | exact qr_a hR (by unfold A_hours; (try simp only [← e39]); (repeat' split) <;> first | rfl | omega | (congr 1; omega))
def A_doorThen (M : KS) (d n w : Int) : Int × KS := if ¬ (0 ≤ d ∧ d < M 39 0) then (-1, rfM M (-1)) else if n < 0 then (-4, rfM M (-4)) else if 60 < n then (-6, rfM M (-6)) else if ¬ (0 ≤ w ∧ w ≤ 1) then (-2, rfM M (-2)) else (aD (m_hours (M 39) n.toNat) d (4 + w), M)
theorem pc_doorThen {d n w : Int} (hM : OkM M) (hC : RC σ M) : Ev l yX4_doorThen cX4_doorThen 6 (some .int) 3 66 [kr 0, ki d, ki n, ki w] σ (QC (A_doorThen M d n w) σ) := by
  have R := hC.1
  have ok := hM.1
  have n9 := ok.1
  have n6 := ok.2.1
  refine ev_intro ym_X4_doorThen.1 (Nat.le_of_ble_eq_true rfl) (fun hv hσ K S => ?_)
  have hv := hv
  show K 0 [some (kr 0), some (ki d), some (ki n), some (ki w), none, none] [] σ
  refine ks_aload_n (n := 1) S dX4_doorThen_0 rfl rfl ?_
  refine ks_getr (n := 4) S dX4_doorThen_1 rfl fl_X4_10 rfl rfl ?_
  refine ks_iload_n (n := 5) S dX4_doorThen_4 rfl rfl ?_
  refine kf_v1z (n := 8) S dX4_doorThen_5 rfl ml_X4_74 ym_X0_hasDoor (ev_X0_hasDoor kq_H1 R) (by decide) kq_H1.o (Nat.le_of_ble_eq_true rfl) ?_
  refine ks_if_ne (n := 11) (tgt := 17) S dX4_doorThen_8 rfl rfl (fun h8 => ?_) (fun h8 => ?_)
  · skip
    simp only [bi_eq, bi_ne] at h8
    refine ks_iload_n (n := 18) S dX4_doorThen_17 rfl rfl ?_
    refine ks_iconst (n := 19) S dX4_doorThen_18 rfl (by unfold iv; decide) ?_
    refine ks_bipush (n := 21) S dX4_doorThen_19 rfl (by unfold iv; decide) ?_
    refine kf_s3i (n := 24) S dX4_doorThen_21 rfl ml_X4_122 ym_X4_outside (ev_X4_outside) (by decide) (Nat.le_of_ble_eq_true rfl) ?_
    rcases m_out n 0 60 with ⟨hc21, hw21⟩ | ⟨hc21, hd21, hw21⟩ | ⟨hc21, hd21, hw21⟩
    · skip
      rw [hw21]
      refine ks_istore (n := 26) S dX4_doorThen_24 rfl (L' := fun y => [some (kr 0), some (ki d), some (ki n), some (ki w), some (ki y), none]) (Nat.le_of_ble_eq_true rfl) (fun _ => rfl) (fun v4_24 hv24 => ?_)
      subst hv24
      refine ks_iload (n := 28) S dX4_doorThen_26 rfl rfl ?_
      refine ks_if_ge (n := 31) (tgt := 38) S dX4_doorThen_28 rfl rfl (fun h28 => ?_) (fun h28 => ?_)
      · omega
      refine ks_aload_n (n := 32) S dX4_doorThen_31 rfl rfl ?_
      refine ks_iload (n := 34) S dX4_doorThen_32 rfl rfl ?_
      refine kf_v1i (n := 37) S dX4_doorThen_34 rfl ml_X4_51 ym_X4_refuse (ev_X4_refuse (by omega)) (by decide) rfl (Nat.le_of_ble_eq_true rfl) ?_
      refine ks_iret S dX4_doorThen_37 ?_
      first | exact qc_r hC (by omega) (by unfold A_doorThen; (repeat' split) <;> first | rfl | omega | (congr 1; omega)) | exact qc_a hC (by unfold A_doorThen; (repeat' split) <;> first | rfl | omega | (congr 1; omega))
    · skip
      rw [hw21]
      refine ks_istore (n := 26) S dX4_doorThen_24 rfl (L' := fun y => [some (kr 0), some (ki d), some (ki n), some (ki w), some (ki y), none]) (Nat.le_of_ble_eq_true rfl) (fun _ => rfl) (fun v4_24 hv24 => ?_)
      subst hv24
      refine ks_iload (n := 28) S dX4_doorThen_26 rfl rfl ?_
      refine ks_if_ge (n := 31) (tgt := 38) S dX4_doorThen_28 rfl rfl (fun h28 => ?_) (fun h28 => ?_)
      · omega
      refine ks_aload_n (n := 32) S dX4_doorThen_31 rfl rfl ?_
      refine ks_iload (n := 34) S dX4_doorThen_32 rfl rfl ?_
      refine kf_v1i (n := 37) S dX4_doorThen_34 rfl ml_X4_51 ym_X4_refuse (ev_X4_refuse (by omega)) (by decide) rfl (Nat.le_of_ble_eq_true rfl) ?_
      refine ks_iret S dX4_doorThen_37 ?_
      first | exact qc_r hC (by omega) (by unfold A_doorThen; (repeat' split) <;> first | rfl | omega | (congr 1; omega)) | exact qc_a hC (by unfold A_doorThen; (repeat' split) <;> first | rfl | omega | (congr 1; omega))
    · skip
      rw [hw21]
      refine ks_istore (n := 26) S dX4_doorThen_24 rfl (L' := fun y => [some (kr 0), some (ki d), some (ki n), some (ki w), some (ki y), none]) (Nat.le_of_ble_eq_true rfl) (fun _ => rfl) (fun v4_24 hv24 => ?_)
      subst hv24
      refine ks_iload (n := 28) S dX4_doorThen_26 rfl rfl ?_
      refine ks_if_ge (n := 31) (tgt := 38) S dX4_doorThen_28 rfl rfl (fun h28 => ?_) (fun h28 => ?_)
      rotate_left
      · omega
      obtain ⟨e1, e2, e3, e4, e5, e6⟩ := R.2.2.2.1 d (by omega) (by omega)
      have o2 := ok.2.2.1
      have h999 := hM.2.1
      obtain ⟨P1, P2⟩ := m_hours_pass ok n.toNat (by omega)
      rw [show ((n.toNat : Nat) : Int) = n by omega] at P1
      obtain ⟨b1, b2, b3, b4, b5, b6⟩ := P1.2.2.2.1 d (by omega) (by omega)
      refine ks_aload_n (n := 39) S dX4_doorThen_38 rfl rfl ?_
      refine ks_getr (n := 42) S dX4_doorThen_39 rfl fl_X4_10 rfl rfl ?_
      refine ks_iload_n (n := 43) S dX4_doorThen_42 rfl rfl ?_
      refine ks_iload_n (n := 44) S dX4_doorThen_43 rfl rfl ?_
      refine kf_v2i (n := 47) S dX4_doorThen_44 rfl ml_X4_142 ym_X0_heatAfter (ev_X0_heatAfter kq_H1 R ok (by omega) (by omega)) (by decide) kq_H1.o (Nat.le_of_ble_eq_true rfl) ?_
      refine ks_istore (n := 49) S dX4_doorThen_47 rfl (L' := fun y => [some (kr 0), some (ki d), some (ki n), some (ki w), some (ki _), some (ki y)]) (Nat.le_of_ble_eq_true rfl) (fun _ => rfl) (fun v5_47 hv47 => ?_)
      subst hv47
      refine ks_iload_n (n := 50) S dX4_doorThen_49 rfl rfl ?_
      refine ks_lookup S (tdf := 99) [(0, 76), (1, 79)] dX4_doorThen_50 (by decide) (by decide) rfl (And.intro (fun h50 => ?_) (fun h50_0 => (And.intro (fun h50 => ?_) (fun h50_1 => ?_))))
      · skip
        refine ks_iload (n := 78) S dX4_doorThen_76 rfl rfl ?_
        refine ks_iret S dX4_doorThen_78 ?_
        obtain rfl : w = 0 := by omega
        exact qc_a hC (by unfold A_doorThen; rw [if_neg (by omega), if_neg (by omega), if_neg (by omega), if_neg (by omega)]; exact congrArg (fun z => (z, M)) b5)
      · skip
        refine ks_iload (n := 81) S dX4_doorThen_79 rfl rfl ?_
        refine ks_if_le (n := 84) (tgt := 96) S dX4_doorThen_81 rfl rfl (fun h81 => ?_) (fun h81 => ?_)
        · skip
          refine ks_bipush (n := 98) S dX4_doorThen_96 rfl (by unfold iv; decide) ?_
          refine ks_iret S dX4_doorThen_98 ?_
          obtain rfl : w = 1 := by omega
          exact qc_a hC (by unfold A_doorThen; rw [if_neg (by omega), if_neg (by omega), if_neg (by omega), if_neg (by omega)]; refine congrArg (fun z => (z, M)) (show aD (m_hours (M 39) n.toNat) d 5 = _ from ?_); rw [b6, b5]; first | (rw [if_pos (by omega), e6]) | (rw [if_neg (by omega)]))
        · skip
          refine ks_aload_n (n := 85) S dX4_doorThen_84 rfl rfl ?_
          refine ks_getr (n := 88) S dX4_doorThen_85 rfl fl_X4_10 rfl rfl ?_
          refine ks_getr (n := 91) S dX4_doorThen_88 rfl fl_X4_93 kq_H1.o rfl ?_
          refine ks_iload_n (n := 92) S dX4_doorThen_91 rfl rfl ?_
          refine ks_iaload (n := 93) S dX4_doorThen_92 rfl kq_H1.a6 (by omega) ?_
          refine ks_goto (n := 98) S dX4_doorThen_93 rfl ?_
          refine ks_iret S dX4_doorThen_98 ?_
          obtain rfl : w = 1 := by omega
          exact qc_a hC (by unfold A_doorThen; rw [if_neg (by omega), if_neg (by omega), if_neg (by omega), if_neg (by omega)]; refine congrArg (fun z => (z, M)) (show aD (m_hours (M 39) n.toNat) d 5 = _ from ?_); rw [b6, b5]; first | (rw [if_pos (by omega), e6]) | (rw [if_neg (by omega)]))
      · skip
        refine ks_aload_n (n := 100) S dX4_doorThen_99 rfl rfl ?_
        refine ks_bipush (n := 102) S dX4_doorThen_100 rfl (by unfold iv; decide) ?_
        refine kf_v1i (n := 105) S dX4_doorThen_102 rfl ml_X4_51 ym_X4_refuse (ev_X4_refuse (by omega)) (by decide) rfl (Nat.le_of_ble_eq_true rfl) ?_
        refine ks_iret S dX4_doorThen_105 ?_
        first | exact qc_r hC (by omega) (by unfold A_doorThen; (repeat' split) <;> first | rfl | omega | (congr 1; omega)) | exact qc_a hC (by unfold A_doorThen; (repeat' split) <;> first | rfl | omega | (congr 1; omega))
  · skip
    simp only [bi_eq, bi_ne] at h8
    refine ks_aload_n (n := 12) S dX4_doorThen_11 rfl rfl ?_
    refine ks_iconst (n := 13) S dX4_doorThen_12 rfl (by unfold iv; decide) ?_
    refine kf_v1i (n := 16) S dX4_doorThen_13 rfl ml_X4_51 ym_X4_refuse (ev_X4_refuse (by omega)) (by decide) rfl (Nat.le_of_ble_eq_true rfl) ?_
    refine ks_iret S dX4_doorThen_16 ?_
    first | exact qc_r hC (by omega) (by unfold A_doorThen; (repeat' split) <;> first | rfl | omega | (congr 1; omega)) | exact qc_a hC (by unfold A_doorThen; (repeat' split) <;> first | rfl | omega | (congr 1; omega))
theorem pr_doorThen {d n w : Int} (hM : OkM M) (hR : RR σ M) : Ev l yX5_doorThen cX5_doorThen 5 (some .int) 5 107 [kr 38, ki d, ki n, ki w] σ (QR (A_doorThen M d n w) σ) := by
  have e39 : σ 39 = M 39 := hR.1
  have ok : OkR (σ 39) := by rw [e39]; exact hM.1
  have n9 := ok.1
  have n6 := ok.2.1
  refine ev_intro ym_X5_doorThen.1 (Nat.le_of_ble_eq_true rfl) (fun hv hσ K S => ?_)
  have hv := hv
  show K 0 [some (kr 38), some (ki d), some (ki n), some (ki w), none] [] σ
  refine ks_aload_n (n := 1) S dX5_doorThen_0 rfl rfl ?_
  refine ks_iload_n (n := 2) S dX5_doorThen_1 rfl rfl ?_
  refine kf_v1z (n := 5) S dX5_doorThen_2 rfl ml_X5_120 ym_X5_isDoor (ev_X5_isDoor n9) (by decide) rfl (Nat.le_of_ble_eq_true rfl) ?_
  refine ks_if_eq (n := 8) (tgt := 18) S dX5_doorThen_5 rfl rfl (fun h5 => ?_) (fun h5 => ?_)
  · skip
    simp only [bi_eq, bi_ne] at h5
    refine ks_iconst (n := 19) S dX5_doorThen_18 rfl (by unfold iv; decide) ?_
    refine ks_istore (n := 21) S dX5_doorThen_19 rfl (L' := fun y => [some (kr 38), some (ki d), some (ki n), some (ki w), some (ki y)]) (Nat.le_of_ble_eq_true rfl) (fun _ => rfl) (fun v4_19 hv19 => ?_)
    subst hv19
    refine ks_iload (n := 23) S dX5_doorThen_21 rfl rfl ?_
    refine ks_if_ne (n := 26) (tgt := 39) S dX5_doorThen_23 rfl rfl (fun h23 => ?_) (fun h23 => ?_)
    rotate_left
    · omega
    refine ks_iload (n := 41) S dX5_doorThen_39 rfl rfl ?_
    refine ks_if_eq (n := 44) (tgt := 51) S dX5_doorThen_41 rfl rfl (fun h41 => ?_) (fun h41 => ?_)
    · omega
    refine ks_aload_n (n := 45) S dX5_doorThen_44 rfl rfl ?_
    refine ks_iload (n := 47) S dX5_doorThen_45 rfl rfl ?_
    refine kf_v1i (n := 50) S dX5_doorThen_47 rfl ml_X5_38 ym_X5_no (ev_X5_no (by omega)) (by decide) rfl (Nat.le_of_ble_eq_true rfl) ?_
    refine ks_iret S dX5_doorThen_50 ?_
    first | exact qr_r hR (by unfold A_doorThen; (try simp only [← e39]); (repeat' split) <;> first | rfl | omega | (congr 1; omega)) | exact qr_a hR (by unfold A_doorThen; (try simp only [← e39]); (repeat' split) <;> first | rfl | omega | (congr 1; omega))
  · skip
    simp only [bi_eq, bi_ne] at h5
    refine ks_iload_n (n := 9) S dX5_doorThen_8 rfl rfl ?_
    refine ks_iconst (n := 10) S dX5_doorThen_9 rfl (by unfold iv; decide) ?_
    refine ks_bipush (n := 12) S dX5_doorThen_10 rfl (by unfold iv; decide) ?_
    refine kf_s3i (n := 15) S dX5_doorThen_12 rfl ml_X5_144 ym_X5_wrongBy (ev_X5_wrongBy) (by decide) (Nat.le_of_ble_eq_true rfl) ?_
    rcases m_out n 0 60 with ⟨hc12, hw12⟩ | ⟨hc12, hd12, hw12⟩ | ⟨hc12, hd12, hw12⟩
    · skip
      rw [hw12]
      refine ks_goto (n := 19) S dX5_doorThen_15 rfl ?_
      refine ks_istore (n := 21) S dX5_doorThen_19 rfl (L' := fun y => [some (kr 38), some (ki d), some (ki n), some (ki w), some (ki y)]) (Nat.le_of_ble_eq_true rfl) (fun _ => rfl) (fun v4_19 hv19 => ?_)
      subst hv19
      refine ks_iload (n := 23) S dX5_doorThen_21 rfl rfl ?_
      refine ks_if_ne (n := 26) (tgt := 39) S dX5_doorThen_23 rfl rfl (fun h23 => ?_) (fun h23 => ?_)
      rotate_left
      · omega
      refine ks_iload (n := 41) S dX5_doorThen_39 rfl rfl ?_
      refine ks_if_eq (n := 44) (tgt := 51) S dX5_doorThen_41 rfl rfl (fun h41 => ?_) (fun h41 => ?_)
      · omega
      refine ks_aload_n (n := 45) S dX5_doorThen_44 rfl rfl ?_
      refine ks_iload (n := 47) S dX5_doorThen_45 rfl rfl ?_
      refine kf_v1i (n := 50) S dX5_doorThen_47 rfl ml_X5_38 ym_X5_no (ev_X5_no (by omega)) (by decide) rfl (Nat.le_of_ble_eq_true rfl) ?_
      refine ks_iret S dX5_doorThen_50 ?_
      first | exact qr_r hR (by unfold A_doorThen; (try simp only [← e39]); (repeat' split) <;> first | rfl | omega | (congr 1; omega)) | exact qr_a hR (by unfold A_doorThen; (try simp only [← e39]); (repeat' split) <;> first | rfl | omega | (congr 1; omega))
    · skip
      rw [hw12]
      refine ks_goto (n := 19) S dX5_doorThen_15 rfl ?_
      refine ks_istore (n := 21) S dX5_doorThen_19 rfl (L' := fun y => [some (kr 38), some (ki d), some (ki n), some (ki w), some (ki y)]) (Nat.le_of_ble_eq_true rfl) (fun _ => rfl) (fun v4_19 hv19 => ?_)
      subst hv19
      refine ks_iload (n := 23) S dX5_doorThen_21 rfl rfl ?_
      refine ks_if_ne (n := 26) (tgt := 39) S dX5_doorThen_23 rfl rfl (fun h23 => ?_) (fun h23 => ?_)
      rotate_left
      · omega
      refine ks_iload (n := 41) S dX5_doorThen_39 rfl rfl ?_
      refine ks_if_eq (n := 44) (tgt := 51) S dX5_doorThen_41 rfl rfl (fun h41 => ?_) (fun h41 => ?_)
      · omega
      refine ks_aload_n (n := 45) S dX5_doorThen_44 rfl rfl ?_
      refine ks_iload (n := 47) S dX5_doorThen_45 rfl rfl ?_
      refine kf_v1i (n := 50) S dX5_doorThen_47 rfl ml_X5_38 ym_X5_no (ev_X5_no (by omega)) (by decide) rfl (Nat.le_of_ble_eq_true rfl) ?_
      refine ks_iret S dX5_doorThen_50 ?_
      first | exact qr_r hR (by unfold A_doorThen; (try simp only [← e39]); (repeat' split) <;> first | rfl | omega | (congr 1; omega)) | exact qr_a hR (by unfold A_doorThen; (try simp only [← e39]); (repeat' split) <;> first | rfl | omega | (congr 1; omega))
    · skip
      rw [hw12]
      refine ks_goto (n := 19) S dX5_doorThen_15 rfl ?_
      refine ks_istore (n := 21) S dX5_doorThen_19 rfl (L' := fun y => [some (kr 38), some (ki d), some (ki n), some (ki w), some (ki y)]) (Nat.le_of_ble_eq_true rfl) (fun _ => rfl) (fun v4_19 hv19 => ?_)
      subst hv19
      refine ks_iload (n := 23) S dX5_doorThen_21 rfl rfl ?_
      refine ks_if_ne (n := 26) (tgt := 39) S dX5_doorThen_23 rfl rfl (fun h23 => ?_) (fun h23 => ?_)
      · omega
      refine ks_iload_n (n := 27) S dX5_doorThen_26 rfl rfl ?_
      refine ks_iconst (n := 28) S dX5_doorThen_27 rfl (by unfold iv; decide) ?_
      refine ks_iconst (n := 29) S dX5_doorThen_28 rfl (by unfold iv; decide) ?_
      refine kf_s3z (n := 32) S dX5_doorThen_29 rfl ml_X5_44 ym_X5_isIn (ev_X5_isIn) (by decide) (Nat.le_of_ble_eq_true rfl) ?_
      refine ks_if_ne (n := 35) (tgt := 39) S dX5_doorThen_32 rfl rfl (fun h32 => ?_) (fun h32 => ?_)
      · skip
        simp only [bi_eq, bi_ne] at h32
        refine ks_iload (n := 41) S dX5_doorThen_39 rfl rfl ?_
        refine ks_if_eq (n := 44) (tgt := 51) S dX5_doorThen_41 rfl rfl (fun h41 => ?_) (fun h41 => ?_)
        rotate_left
        · omega
        have o2 := ok.2.2.1
        have h999 : σ 39 2 ≤ 999 := by rw [e39]; exact hM.2.1
        refine ks_aload_n (n := 52) S dX5_doorThen_51 rfl rfl ?_
        refine ks_iload_n (n := 53) S dX5_doorThen_52 rfl rfl ?_
        refine kf_v1v (n := 56) S dX5_doorThen_53 rfl ml_X5_152 ym_X5_takes (ev_X5_takes ok (by rw [e39]; exact hM.2.2.1) hR.2.2.2.2.2.2.2.2.1 (by omega) (by omega)) (by decide) rfl (Nat.le_of_ble_eq_true rfl) ?_
        refine ks_aload_n (n := 57) S dX5_doorThen_56 rfl rfl ?_
        refine ks_getr (n := 60) S dX5_doorThen_57 rfl fl_X5_13 rfl rfl ?_
        refine ks_iload_n (n := 61) S dX5_doorThen_60 rfl rfl ?_
        refine ks_iconst (n := 62) S dX5_doorThen_61 rfl (by unfold iv; decide) ?_
        refine ks_iload_n (n := 63) S dX5_doorThen_62 rfl rfl ?_
        refine ks_iadd (n := 64) S dX5_doorThen_63 rfl (by omega) ?_
        refine kf_s2i (n := 67) S dX5_doorThen_64 rfl ml_X5_48 ym_X5_ofD (ev_X5_ofD (by omega) (by omega)) (by decide) (Nat.le_of_ble_eq_true rfl) ?_
        refine ks_iaload (n := 68) S dX5_doorThen_67 rfl rfl (by omega) ?_
        refine ks_iret S dX5_doorThen_68 ?_
        rw [sr_r]
        exact qr_t hR (FrQ.m (m_hours_z ok (by rw [e39]; exact hM.2.2.1) _ (by omega))) (by unfold A_doorThen; simp only [← e39]; rw [if_neg (by omega), if_neg (by omega), if_neg (by omega), if_neg (by omega)]; rfl)
      · skip
        simp only [bi_eq, bi_ne] at h32
        refine ks_bipush (n := 37) S dX5_doorThen_35 rfl (by unfold iv; decide) ?_
        refine ks_istore (n := 39) S dX5_doorThen_37 rfl (L' := fun y => [some (kr 38), some (ki d), some (ki n), some (ki w), some (ki y)]) (Nat.le_of_ble_eq_true rfl) (fun _ => rfl) (fun v4_37 hv37 => ?_)
        subst hv37
        refine ks_iload (n := 41) S dX5_doorThen_39 rfl rfl ?_
        refine ks_if_eq (n := 44) (tgt := 51) S dX5_doorThen_41 rfl rfl (fun h41 => ?_) (fun h41 => ?_)
        · omega
        refine ks_aload_n (n := 45) S dX5_doorThen_44 rfl rfl ?_
        refine ks_iload (n := 47) S dX5_doorThen_45 rfl rfl ?_
        refine kf_v1i (n := 50) S dX5_doorThen_47 rfl ml_X5_38 ym_X5_no (ev_X5_no (by omega)) (by decide) rfl (Nat.le_of_ble_eq_true rfl) ?_
        refine ks_iret S dX5_doorThen_50 ?_
        first | exact qr_r hR (by unfold A_doorThen; (try simp only [← e39]); (repeat' split) <;> first | rfl | omega | (congr 1; omega)) | exact qr_a hR (by unfold A_doorThen; (try simp only [← e39]); (repeat' split) <;> first | rfl | omega | (congr 1; omega))
def A_moodThen (M : KS) (p n : Int) : Int × KS := if ¬ (0 ≤ p ∧ p < M 39 1) then (-1, rfM M (-1)) else if n < 0 then (-4, rfM M (-4)) else if 60 < n then (-6, rfM M (-6)) else (aP (m_hours (M 39) n.toNat) p 2, M)
theorem pc_moodThen {p n : Int} (hM : OkM M) (hC : RC σ M) : Ev l yX4_moodThen cX4_moodThen 4 (some .int) 2 43 [kr 0, ki p, ki n] σ (QC (A_moodThen M p n) σ) := by
  have R := hC.1
  have ok := hM.1
  have n9 := ok.1
  have n6 := ok.2.1
  refine ev_intro ym_X4_moodThen.1 (Nat.le_of_ble_eq_true rfl) (fun hv hσ K S => ?_)
  have hv := hv
  show K 0 [some (kr 0), some (ki p), some (ki n), none] [] σ
  refine ks_aload_n (n := 1) S dX4_moodThen_0 rfl rfl ?_
  refine ks_getr (n := 4) S dX4_moodThen_1 rfl fl_X4_10 rfl rfl ?_
  refine ks_iload_n (n := 5) S dX4_moodThen_4 rfl rfl ?_
  refine kf_v1z (n := 8) S dX4_moodThen_5 rfl ml_X4_99 ym_X0_hasPerson (ev_X0_hasPerson kq_H1 R) (by decide) kq_H1.o (Nat.le_of_ble_eq_true rfl) ?_
  refine ks_if_ne (n := 11) (tgt := 17) S dX4_moodThen_8 rfl rfl (fun h8 => ?_) (fun h8 => ?_)
  · skip
    simp only [bi_eq, bi_ne] at h8
    refine ks_iload_n (n := 18) S dX4_moodThen_17 rfl rfl ?_
    refine ks_iconst (n := 19) S dX4_moodThen_18 rfl (by unfold iv; decide) ?_
    refine ks_bipush (n := 21) S dX4_moodThen_19 rfl (by unfold iv; decide) ?_
    refine kf_s3i (n := 24) S dX4_moodThen_21 rfl ml_X4_122 ym_X4_outside (ev_X4_outside) (by decide) (Nat.le_of_ble_eq_true rfl) ?_
    rcases m_out n 0 60 with ⟨hc21, hw21⟩ | ⟨hc21, hd21, hw21⟩ | ⟨hc21, hd21, hw21⟩
    · skip
      rw [hw21]
      refine ks_istore_n (n := 25) S dX4_moodThen_24 rfl rfl (L' := fun y => [some (kr 0), some (ki p), some (ki n), some (ki y)]) (Nat.le_of_ble_eq_true rfl) (fun _ => rfl) (fun v3_24 hv24 => ?_)
      subst hv24
      refine ks_iload_n (n := 26) S dX4_moodThen_25 rfl rfl ?_
      refine ks_if_ge (n := 29) (tgt := 35) S dX4_moodThen_26 rfl rfl (fun h26 => ?_) (fun h26 => ?_)
      · omega
      refine ks_aload_n (n := 30) S dX4_moodThen_29 rfl rfl ?_
      refine ks_iload_n (n := 31) S dX4_moodThen_30 rfl rfl ?_
      refine kf_v1i (n := 34) S dX4_moodThen_31 rfl ml_X4_51 ym_X4_refuse (ev_X4_refuse (by omega)) (by decide) rfl (Nat.le_of_ble_eq_true rfl) ?_
      refine ks_iret S dX4_moodThen_34 ?_
      first | exact qc_r hC (by omega) (by unfold A_moodThen; (repeat' split) <;> first | rfl | omega | (congr 1; omega)) | exact qc_a hC (by unfold A_moodThen; (repeat' split) <;> first | rfl | omega | (congr 1; omega))
    · skip
      rw [hw21]
      refine ks_istore_n (n := 25) S dX4_moodThen_24 rfl rfl (L' := fun y => [some (kr 0), some (ki p), some (ki n), some (ki y)]) (Nat.le_of_ble_eq_true rfl) (fun _ => rfl) (fun v3_24 hv24 => ?_)
      subst hv24
      refine ks_iload_n (n := 26) S dX4_moodThen_25 rfl rfl ?_
      refine ks_if_ge (n := 29) (tgt := 35) S dX4_moodThen_26 rfl rfl (fun h26 => ?_) (fun h26 => ?_)
      · omega
      refine ks_aload_n (n := 30) S dX4_moodThen_29 rfl rfl ?_
      refine ks_iload_n (n := 31) S dX4_moodThen_30 rfl rfl ?_
      refine kf_v1i (n := 34) S dX4_moodThen_31 rfl ml_X4_51 ym_X4_refuse (ev_X4_refuse (by omega)) (by decide) rfl (Nat.le_of_ble_eq_true rfl) ?_
      refine ks_iret S dX4_moodThen_34 ?_
      first | exact qc_r hC (by omega) (by unfold A_moodThen; (repeat' split) <;> first | rfl | omega | (congr 1; omega)) | exact qc_a hC (by unfold A_moodThen; (repeat' split) <;> first | rfl | omega | (congr 1; omega))
    · skip
      rw [hw21]
      refine ks_istore_n (n := 25) S dX4_moodThen_24 rfl rfl (L' := fun y => [some (kr 0), some (ki p), some (ki n), some (ki y)]) (Nat.le_of_ble_eq_true rfl) (fun _ => rfl) (fun v3_24 hv24 => ?_)
      subst hv24
      refine ks_iload_n (n := 26) S dX4_moodThen_25 rfl rfl ?_
      refine ks_if_ge (n := 29) (tgt := 35) S dX4_moodThen_26 rfl rfl (fun h26 => ?_) (fun h26 => ?_)
      rotate_left
      · omega
      obtain ⟨e1, e2, e3⟩ := R.2.2.2.2 p (by omega) (by omega)
      have o2 := ok.2.2.1
      have op := ok.2.2.2.2 p (by omega) (by omega)
      have h999 := hM.2.1
      obtain ⟨P1, P2⟩ := m_hours_pass ok n.toNat (by omega)
      rw [show ((n.toNat : Nat) : Int) = n by omega] at P1
      obtain ⟨b1, b2, b3⟩ := P1.2.2.2.2 p (by omega) (by omega)
      refine ks_aload_n (n := 36) S dX4_moodThen_35 rfl rfl ?_
      refine ks_getr (n := 39) S dX4_moodThen_36 rfl fl_X4_10 rfl rfl ?_
      refine ks_iload_n (n := 40) S dX4_moodThen_39 rfl rfl ?_
      refine ks_iload_n (n := 41) S dX4_moodThen_40 rfl rfl ?_
      refine kf_v2i (n := 44) S dX4_moodThen_41 rfl ml_X4_146 ym_X0_moodAfter (ev_X0_moodAfter kq_H1 (by omega) (by rw [e3]; exact op.2.2) (by omega)) (by decide) kq_H1.o (Nat.le_of_ble_eq_true rfl) ?_
      refine ks_iret S dX4_moodThen_44 ?_
      exact qc_a hC (by unfold A_moodThen; rw [if_neg (by omega), if_neg (by omega), if_neg (by omega), b3, e3])
  · skip
    simp only [bi_eq, bi_ne] at h8
    refine ks_aload_n (n := 12) S dX4_moodThen_11 rfl rfl ?_
    refine ks_iconst (n := 13) S dX4_moodThen_12 rfl (by unfold iv; decide) ?_
    refine kf_v1i (n := 16) S dX4_moodThen_13 rfl ml_X4_51 ym_X4_refuse (ev_X4_refuse (by omega)) (by decide) rfl (Nat.le_of_ble_eq_true rfl) ?_
    refine ks_iret S dX4_moodThen_16 ?_
    first | exact qc_r hC (by omega) (by unfold A_moodThen; (repeat' split) <;> first | rfl | omega | (congr 1; omega)) | exact qc_a hC (by unfold A_moodThen; (repeat' split) <;> first | rfl | omega | (congr 1; omega))
theorem pr_moodThen {p n : Int} (hM : OkM M) (hR : RR σ M) : Ev l yX5_moodThen cX5_moodThen 4 (some .int) 5 107 [kr 38, ki p, ki n] σ (QR (A_moodThen M p n) σ) := by
  have e39 : σ 39 = M 39 := hR.1
  have ok : OkR (σ 39) := by rw [e39]; exact hM.1
  have n9 := ok.1
  have n6 := ok.2.1
  refine ev_intro ym_X5_moodThen.1 (Nat.le_of_ble_eq_true rfl) (fun hv hσ K S => ?_)
  have hv := hv
  show K 0 [some (kr 38), some (ki p), some (ki n), none] [] σ
  refine ks_aload_n (n := 1) S dX5_moodThen_0 rfl rfl ?_
  refine ks_iload_n (n := 2) S dX5_moodThen_1 rfl rfl ?_
  refine kf_v1z (n := 5) S dX5_moodThen_2 rfl ml_X5_117 ym_X5_isPerson (ev_X5_isPerson n6) (by decide) rfl (Nat.le_of_ble_eq_true rfl) ?_
  refine ks_if_eq (n := 8) (tgt := 18) S dX5_moodThen_5 rfl rfl (fun h5 => ?_) (fun h5 => ?_)
  · skip
    simp only [bi_eq, bi_ne] at h5
    refine ks_iconst (n := 19) S dX5_moodThen_18 rfl (by unfold iv; decide) ?_
    refine ks_istore_n (n := 20) S dX5_moodThen_19 rfl rfl (L' := fun y => [some (kr 38), some (ki p), some (ki n), some (ki y)]) (Nat.le_of_ble_eq_true rfl) (fun _ => rfl) (fun v3_19 hv19 => ?_)
    subst hv19
    refine ks_iload_n (n := 21) S dX5_moodThen_20 rfl rfl ?_
    refine ks_if_eq (n := 24) (tgt := 30) S dX5_moodThen_21 rfl rfl (fun h21 => ?_) (fun h21 => ?_)
    · omega
    refine ks_aload_n (n := 25) S dX5_moodThen_24 rfl rfl ?_
    refine ks_iload_n (n := 26) S dX5_moodThen_25 rfl rfl ?_
    refine kf_v1i (n := 29) S dX5_moodThen_26 rfl ml_X5_38 ym_X5_no (ev_X5_no (by omega)) (by decide) rfl (Nat.le_of_ble_eq_true rfl) ?_
    refine ks_iret S dX5_moodThen_29 ?_
    first | exact qr_r hR (by unfold A_moodThen; (try simp only [← e39]); (repeat' split) <;> first | rfl | omega | (congr 1; omega)) | exact qr_a hR (by unfold A_moodThen; (try simp only [← e39]); (repeat' split) <;> first | rfl | omega | (congr 1; omega))
  · skip
    simp only [bi_eq, bi_ne] at h5
    refine ks_iload_n (n := 9) S dX5_moodThen_8 rfl rfl ?_
    refine ks_iconst (n := 10) S dX5_moodThen_9 rfl (by unfold iv; decide) ?_
    refine ks_bipush (n := 12) S dX5_moodThen_10 rfl (by unfold iv; decide) ?_
    refine kf_s3i (n := 15) S dX5_moodThen_12 rfl ml_X5_144 ym_X5_wrongBy (ev_X5_wrongBy) (by decide) (Nat.le_of_ble_eq_true rfl) ?_
    rcases m_out n 0 60 with ⟨hc12, hw12⟩ | ⟨hc12, hd12, hw12⟩ | ⟨hc12, hd12, hw12⟩
    · skip
      rw [hw12]
      refine ks_goto (n := 19) S dX5_moodThen_15 rfl ?_
      refine ks_istore_n (n := 20) S dX5_moodThen_19 rfl rfl (L' := fun y => [some (kr 38), some (ki p), some (ki n), some (ki y)]) (Nat.le_of_ble_eq_true rfl) (fun _ => rfl) (fun v3_19 hv19 => ?_)
      subst hv19
      refine ks_iload_n (n := 21) S dX5_moodThen_20 rfl rfl ?_
      refine ks_if_eq (n := 24) (tgt := 30) S dX5_moodThen_21 rfl rfl (fun h21 => ?_) (fun h21 => ?_)
      · omega
      refine ks_aload_n (n := 25) S dX5_moodThen_24 rfl rfl ?_
      refine ks_iload_n (n := 26) S dX5_moodThen_25 rfl rfl ?_
      refine kf_v1i (n := 29) S dX5_moodThen_26 rfl ml_X5_38 ym_X5_no (ev_X5_no (by omega)) (by decide) rfl (Nat.le_of_ble_eq_true rfl) ?_
      refine ks_iret S dX5_moodThen_29 ?_
      first | exact qr_r hR (by unfold A_moodThen; (try simp only [← e39]); (repeat' split) <;> first | rfl | omega | (congr 1; omega)) | exact qr_a hR (by unfold A_moodThen; (try simp only [← e39]); (repeat' split) <;> first | rfl | omega | (congr 1; omega))
    · skip
      rw [hw12]
      refine ks_goto (n := 19) S dX5_moodThen_15 rfl ?_
      refine ks_istore_n (n := 20) S dX5_moodThen_19 rfl rfl (L' := fun y => [some (kr 38), some (ki p), some (ki n), some (ki y)]) (Nat.le_of_ble_eq_true rfl) (fun _ => rfl) (fun v3_19 hv19 => ?_)
      subst hv19
      refine ks_iload_n (n := 21) S dX5_moodThen_20 rfl rfl ?_
      refine ks_if_eq (n := 24) (tgt := 30) S dX5_moodThen_21 rfl rfl (fun h21 => ?_) (fun h21 => ?_)
      · omega
      refine ks_aload_n (n := 25) S dX5_moodThen_24 rfl rfl ?_
      refine ks_iload_n (n := 26) S dX5_moodThen_25 rfl rfl ?_
      refine kf_v1i (n := 29) S dX5_moodThen_26 rfl ml_X5_38 ym_X5_no (ev_X5_no (by omega)) (by decide) rfl (Nat.le_of_ble_eq_true rfl) ?_
      refine ks_iret S dX5_moodThen_29 ?_
      first | exact qr_r hR (by unfold A_moodThen; (try simp only [← e39]); (repeat' split) <;> first | rfl | omega | (congr 1; omega)) | exact qr_a hR (by unfold A_moodThen; (try simp only [← e39]); (repeat' split) <;> first | rfl | omega | (congr 1; omega))
    · skip
      rw [hw12]
      refine ks_goto (n := 19) S dX5_moodThen_15 rfl ?_
      refine ks_istore_n (n := 20) S dX5_moodThen_19 rfl rfl (L' := fun y => [some (kr 38), some (ki p), some (ki n), some (ki y)]) (Nat.le_of_ble_eq_true rfl) (fun _ => rfl) (fun v3_19 hv19 => ?_)
      subst hv19
      refine ks_iload_n (n := 21) S dX5_moodThen_20 rfl rfl ?_
      refine ks_if_eq (n := 24) (tgt := 30) S dX5_moodThen_21 rfl rfl (fun h21 => ?_) (fun h21 => ?_)
      rotate_left
      · omega
      have o2 := ok.2.2.1
      have h999 : σ 39 2 ≤ 999 := by rw [e39]; exact hM.2.1
      refine ks_aload_n (n := 31) S dX5_moodThen_30 rfl rfl ?_
      refine ks_iload_n (n := 32) S dX5_moodThen_31 rfl rfl ?_
      refine kf_v1v (n := 35) S dX5_moodThen_32 rfl ml_X5_152 ym_X5_takes (ev_X5_takes ok (by rw [e39]; exact hM.2.2.1) hR.2.2.2.2.2.2.2.2.1 (by omega) (by omega)) (by decide) rfl (Nat.le_of_ble_eq_true rfl) ?_
      refine ks_aload_n (n := 36) S dX5_moodThen_35 rfl rfl ?_
      refine ks_getr (n := 39) S dX5_moodThen_36 rfl fl_X5_13 rfl rfl ?_
      refine ks_iload_n (n := 40) S dX5_moodThen_39 rfl rfl ?_
      refine ks_iconst (n := 41) S dX5_moodThen_40 rfl (by unfold iv; decide) ?_
      refine kf_s2i (n := 44) S dX5_moodThen_41 rfl ml_X5_55 ym_X5_ofP (ev_X5_ofP (by omega) (by omega)) (by decide) (Nat.le_of_ble_eq_true rfl) ?_
      refine ks_iaload (n := 45) S dX5_moodThen_44 rfl rfl (by omega) ?_
      refine ks_iret S dX5_moodThen_45 ?_
      rw [sr_r]
      exact qr_t hR (FrQ.m (m_hours_z ok (by rw [e39]; exact hM.2.2.1) _ (by omega))) (by unfold A_moodThen; simp only [← e39]; rw [if_neg (by omega), if_neg (by omega), if_neg (by omega)]; rfl)
end PUB1

