section PUB11
variable {l : Launch} {σ M : KS}
/-- the tolls now -/
def m_tn (a : RW) (room : Int) : RW := m_tl a (m_gv a) room
theorem m_tn_PI {a : RW} {room : Int} (ok : OkR a) (hr : 0 ≤ room ∧ room < 7) : m_PI (m_tn a room) := m_PI_tl ok (fun d d0 d1 => (m_gv_b ok ⟨d0, d1⟩).2) hr
def m_fd (a T : RW) (o : Int) : Int := if 1000000000 ≤ T o then -9 else m_fi (m_pd a (m_gv a) T o) (a 0).toNat 0
def A_way (M : KS) (p o w : Int) : Int × KS := if ¬ ((0 ≤ p ∧ p ≤ M 39 1 - 1) ∧ (0 ≤ o ∧ o ≤ 6)) then (-1, rfM M (-1)) else if ¬ (0 ≤ w ∧ w ≤ 2) then (-2, rfM M (-2)) else (if w = 0 then m_gi (m_tn (M 39) o (aP (M 39) p 1)) else if w = 1 then m_di (m_tn (M 39) o (aP (M 39) p 1)) else m_fd (M 39) (m_tn (M 39) o) (aP (M 39) p 1), M)
theorem pc_way {p o w : Int} (hM : OkM M) (hC : RC σ M) : Ev l yX4_way cX4_way 5 (some .int) 5 116 [kr 0, ki p, ki o, ki w] σ (QC (A_way M p o w) σ) := by
  have R := hC.1
  have ok := hM.1
  have n9 := ok.1
  have n6 := ok.2.1
  refine ev_intro ym_X4_way.1 (Nat.le_of_ble_eq_true rfl) (fun hv hσ K S => ?_)
  have hv := hv
  show K 0 [some (kr 0), some (ki p), some (ki o), some (ki w), none] [] σ
  refine ks_aload_n (n := 1) S dX4_way_0 rfl rfl ?_
  refine ks_getr (n := 4) S dX4_way_1 rfl fl_X4_10 rfl rfl ?_
  refine ks_iload_n (n := 5) S dX4_way_4 rfl rfl ?_
  refine kf_v1z (n := 8) S dX4_way_5 rfl ml_X4_99 ym_X0_hasPerson (ev_X0_hasPerson kq_H1 R) (by decide) kq_H1.o (Nat.le_of_ble_eq_true rfl) ?_
  refine ks_if_eq (n := 11) (tgt := 18) S dX4_way_8 rfl rfl (fun h8 => ?_) (fun h8 => ?_)
  · skip
    simp only [bi_eq, bi_ne, Classical.not_not] at h8
    refine ks_aload_n (n := 19) S dX4_way_18 rfl rfl ?_
    refine ks_iconst (n := 20) S dX4_way_19 rfl (by unfold iv; decide) ?_
    refine kf_v1i (n := 23) S dX4_way_20 rfl ml_X4_51 ym_X4_refuse (ev_X4_refuse (by omega)) (by decide) rfl (Nat.le_of_ble_eq_true rfl) ?_
    refine ks_iret S dX4_way_23 ?_
    exact qc_r hC (by omega) (by unfold A_way; rw [if_pos (by omega)])
  · skip
    simp only [bi_eq, bi_ne, Classical.not_not] at h8
    refine ks_iload_n (n := 12) S dX4_way_11 rfl rfl ?_
    refine kf_s1z (n := 15) S dX4_way_12 rfl ml_X4_130 ym_X4_isRoom (ev_X4_isRoom) (by decide) (Nat.le_of_ble_eq_true rfl) ?_
    refine ks_if_ne (n := 18) (tgt := 24) S dX4_way_15 rfl rfl (fun h15 => ?_) (fun h15 => ?_)
    · skip
      simp only [bi_eq, bi_ne, Classical.not_not] at h15
      refine ks_aload_n (n := 25) S dX4_way_24 rfl rfl ?_
      refine ks_iload_n (n := 26) S dX4_way_25 rfl rfl ?_
      refine ks_iconst (n := 27) S dX4_way_26 rfl (by unfold iv; decide) ?_
      refine ks_v2v (n := 30) S dX4_way_27 rfl ml_X4_164 ym_X4_findWaysTo (ev_X4_findWaysTo (g := m_gv (M 39)) hM hC (by omega) (by omega) (fun d d0 d1 => (m_ga_0 ok ⟨d0, d1⟩).symm)) (by decide) rfl (Nat.le_of_ble_eq_true rfl) (fun τ27 q27 => ?_)
      obtain ⟨q1, F, hP, hgd⟩ := q27
      have R2 := (hC.fr F).1
      have f1 := (R2.2.2.2.2 p (by omega) (by omega)).2.1
      have op := ok.2.2.2.2 p (by omega) (by omega)
      unfold OkP at op
      have hT := m_tn_PI (room := o) ok (by omega)
      have hrg := hT.rg (r := aP (M 39) p 1) (by omega)
      have hfb := m_f_b hrg
      have hpo : τ27 35 (aP (M 39) p 1) = m_f (m_tn (M 39) o (aP (M 39) p 1)) := hP _ (by omega) (by omega)
      refine ks_aload_n (n := 31) S dX4_way_30 rfl rfl ?_
      refine ks_getr (n := 34) S dX4_way_31 rfl fl_X4_10 rfl rfl ?_
      refine ks_getr (n := 37) S dX4_way_34 rfl fl_X4_105 kq_H1.o rfl ?_
      refine ks_iload_n (n := 38) S dX4_way_37 rfl rfl ?_
      refine ks_iaload (n := 39) S dX4_way_38 rfl kq_H1.a8 (by omega) ?_
      rw [f1]
      refine ks_istore (n := 41) S dX4_way_39 rfl (L' := fun yy => [some (kr 0), some (ki p), some (ki o), some (ki w), some (ki yy)]) (Nat.le_of_ble_eq_true rfl) (fun _ => rfl) (fun v4_39 hv39 => ?_)
      subst v4_39
      refine ks_iload_n (n := 42) S dX4_way_41 rfl rfl ?_
      refine ks_table S (tdf := 102) [68, 78, 88] dX4_way_42 (by decide) (by decide) rfl (fun h42 => ?_) (And.intro (fun h42 => ?_) (And.intro (fun h42 => ?_) (And.intro (fun h42 => ?_) trivial)))
      · skip
        refine ks_aload_n (n := 103) S dX4_way_102 rfl rfl ?_
        refine ks_bipush (n := 105) S dX4_way_103 rfl (by unfold iv; decide) ?_
        refine kf_v1i (n := 108) S dX4_way_105 rfl ml_X4_51 ym_X4_refuse (ev_X4_refuse (by omega)) (by decide) rfl (Nat.le_of_ble_eq_true rfl) ?_
        refine ks_iret S dX4_way_108 ?_
        exact qc_rt hC F (by omega) (by unfold A_way; rw [if_neg (by omega), if_pos (by omega)])
      · skip
        refine ks_aload_n (n := 69) S dX4_way_68 rfl rfl ?_
        refine ks_getr (n := 72) S dX4_way_69 rfl fl_X4_36 rfl rfl ?_
        refine ks_iload (n := 74) S dX4_way_72 rfl rfl ?_
        refine kf_v1i (n := 77) S dX4_way_74 rfl ml_X4_167 ym_X3_givenFrom (ev_X3_givenFrom (by omega) (by omega)) (by decide) rfl (Nat.le_of_ble_eq_true rfl) ?_
        refine ks_iret S dX4_way_77 ?_
        exact qc_t hC F (by unfold A_way; rw [if_neg (by omega), if_neg (by omega), if_pos (by omega), hpo, m_f_gi hrg])
      · skip
        refine ks_aload_n (n := 79) S dX4_way_78 rfl rfl ?_
        refine ks_getr (n := 82) S dX4_way_79 rfl fl_X4_36 rfl rfl ?_
        refine ks_iload (n := 84) S dX4_way_82 rfl rfl ?_
        refine kf_v1i (n := 87) S dX4_way_84 rfl ml_X4_170 ym_X3_doorsFrom (ev_X3_doorsFrom (by omega) (by omega)) (by decide) rfl (Nat.le_of_ble_eq_true rfl) ?_
        refine ks_iret S dX4_way_87 ?_
        exact qc_t hC F (by unfold A_way; rw [if_neg (by omega), if_neg (by omega), if_neg (by omega), if_pos (by omega), hpo, m_f_di hrg])
      · skip
        refine ks_aload_n (n := 89) S dX4_way_88 rfl rfl ?_
        refine ks_getr (n := 92) S dX4_way_89 rfl fl_X4_36 rfl rfl ?_
        refine ks_aload_n (n := 93) S dX4_way_92 rfl rfl ?_
        refine ks_getr (n := 96) S dX4_way_93 rfl fl_X4_10 rfl rfl ?_
        refine ks_iload (n := 98) S dX4_way_96 rfl rfl ?_
        refine kf_v2i (n := 101) S dX4_way_98 rfl ml_X4_173 ym_X3_doorFrom (ev_X3_doorFrom kq_H1 R2 ok hP hT (by omega) hgd) (by decide) rfl (Nat.le_of_ble_eq_true rfl) ?_
        refine ks_iret S dX4_way_101 ?_
        exact qc_t hC F (by unfold A_way; rw [if_neg (by omega), if_neg (by omega), if_neg (by omega), if_neg (by omega)]; rfl)
    · skip
      simp only [bi_eq, bi_ne, Classical.not_not] at h15
      refine ks_aload_n (n := 19) S dX4_way_18 rfl rfl ?_
      refine ks_iconst (n := 20) S dX4_way_19 rfl (by unfold iv; decide) ?_
      refine kf_v1i (n := 23) S dX4_way_20 rfl ml_X4_51 ym_X4_refuse (ev_X4_refuse (by omega)) (by decide) rfl (Nat.le_of_ble_eq_true rfl) ?_
      refine ks_iret S dX4_way_23 ?_
      exact qc_r hC (by omega) (by unfold A_way; rw [if_pos (by omega)])
theorem pr_way {p o w : Int} (hM : OkM M) (hR : RR σ M) : Ev l yX5_way cX5_way 5 (some .int) 4 92 [kr 38, ki p, ki o, ki w] σ (QR (A_way M p o w) σ) := by
  have e39 : σ 39 = M 39 := hR.1
  have ok : OkR (σ 39) := by rw [e39]; exact hM.1
  have n9 := ok.1
  have n6 := ok.2.1
  refine ev_intro ym_X5_way.1 (Nat.le_of_ble_eq_true rfl) (fun hv hσ K S => ?_)
  have hv := hv
  show K 0 [some (kr 38), some (ki p), some (ki o), some (ki w), none] [] σ
  refine ks_aload_n (n := 1) S dX5_way_0 rfl rfl ?_
  refine ks_iload_n (n := 2) S dX5_way_1 rfl rfl ?_
  refine ks_iload_n (n := 3) S dX5_way_2 rfl rfl ?_
  refine kf_v2z (n := 6) S dX5_way_3 rfl ml_X5_168 ym_X5_areWrong (ev_X5_areWrong n6) (by decide) rfl (Nat.le_of_ble_eq_true rfl) ?_
  refine ks_if_eq (n := 9) (tgt := 15) S dX5_way_6 rfl rfl (fun h6 => ?_) (fun h6 => ?_)
  · skip
    simp only [bi_eq, bi_ne, Classical.not_not] at h6
    refine ks_iload_n (n := 16) S dX5_way_15 rfl rfl ?_
    refine ks_iconst (n := 17) S dX5_way_16 rfl (by unfold iv; decide) ?_
    refine ks_iconst (n := 18) S dX5_way_17 rfl (by unfold iv; decide) ?_
    refine kf_s3z (n := 21) S dX5_way_18 rfl ml_X5_44 ym_X5_isIn (ev_X5_isIn) (by decide) (Nat.le_of_ble_eq_true rfl) ?_
    refine ks_if_ne (n := 24) (tgt := 31) S dX5_way_21 rfl rfl (fun h21 => ?_) (fun h21 => ?_)
    · skip
      simp only [bi_eq, bi_ne, Classical.not_not] at h21
      refine ks_aload_n (n := 32) S dX5_way_31 rfl rfl ?_
      refine ks_aload_n (n := 33) S dX5_way_32 rfl rfl ?_
      refine ks_getr (n := 36) S dX5_way_33 rfl fl_X5_9 rfl rfl ?_
      refine ks_iload_n (n := 37) S dX5_way_36 rfl rfl ?_
      refine ks_bipush (n := 39) S dX5_way_37 rfl (by unfold iv; decide) ?_
      refine ks_v3v (n := 42) S dX5_way_39 rfl ml_X5_171 ym_X5_tolls (ev_X5_tolls rfl (by decide) ok (by omega)) (by decide) rfl (Nat.le_of_ble_eq_true rfl) (fun τ39 q39 => ?_)
      obtain ⟨q1, F, hz⟩ := q39
      have hQ : FrQ σ τ39 := FrQ.t47 F hR.2.2.2.2.2.2.2.2.1
      have op := ok.2.2.2.2 p (by omega) (by omega)
      unfold OkP at op
      rw [m_tl_9 ok, show m_tl (σ 39) (m_gv (σ 39)) o = m_tn (σ 39) o from rfl] at hz
      have hT := m_tn_PI (room := o) ok (by omega)
      have hrg := hT.rg (r := aP (σ 39) p 1) (by omega)
      have hpo := hz (aP (σ 39) p 1) (by omega) (by omega)
      have f39 : τ39 39 = σ 39 := F 39 (by decide)
      have f1 : τ39 39 (57 + 3 * p + 1) = aP (σ 39) p 1 := by rw [f39]; rfl
      unfold m_rg at hrg
      refine ks_aload_n (n := 43) S dX5_way_42 rfl rfl ?_
      refine ks_getr (n := 46) S dX5_way_43 rfl fl_X5_9 rfl rfl ?_
      refine ks_iload_n (n := 47) S dX5_way_46 rfl rfl ?_
      refine ks_iconst (n := 48) S dX5_way_47 rfl (by unfold iv; decide) ?_
      refine kf_s2i (n := 51) S dX5_way_48 rfl ml_X5_55 ym_X5_ofP (ev_X5_ofP (by omega) (by omega)) (by decide) (Nat.le_of_ble_eq_true rfl) ?_
      refine ks_iaload (n := 52) S dX5_way_51 rfl rfl (by omega) ?_
      rw [f1]
      refine ks_istore (n := 54) S dX5_way_52 rfl (L' := fun yy => [some (kr 38), some (ki p), some (ki o), some (ki w), some (ki yy)]) (Nat.le_of_ble_eq_true rfl) (fun _ => rfl) (fun v4_52 hv52 => ?_)
      subst v4_52
      refine ks_aload_n (n := 55) S dX5_way_54 rfl rfl ?_
      refine ks_getr (n := 58) S dX5_way_55 rfl fl_X5_34 rfl rfl ?_
      refine ks_iload (n := 60) S dX5_way_58 rfl rfl ?_
      refine ks_iaload (n := 61) S dX5_way_60 rfl rfl (by omega) ?_
      refine ks_ldc (n := 63) (x := 1000000000) S dX5_way_61 rfl ct_X5_37 (by unfold iv; decide +kernel) ?_
      refine ks_icmp_lt (n := 66) (tgt := 69) S dX5_way_63 rfl rfl (fun h63 => ?_) (fun h63 => ?_)
      · skip
        refine ks_iload_n (n := 70) S dX5_way_69 rfl rfl ?_
        refine ks_if_ne (n := 73) (tgt := 86) S dX5_way_70 rfl rfl (fun h70 => ?_) (fun h70 => ?_)
        · skip
          refine ks_iload_n (n := 87) S dX5_way_86 rfl rfl ?_
          refine ks_iconst (n := 88) S dX5_way_87 rfl (by unfold iv; decide) ?_
          refine ks_icmp_ne (n := 91) (tgt := 104) S dX5_way_88 rfl rfl (fun h88 => ?_) (fun h88 => ?_)
          · skip
            refine ks_aload_n (n := 105) S dX5_way_104 rfl rfl ?_
            refine ks_getr (n := 108) S dX5_way_105 rfl fl_X5_9 rfl rfl ?_
            refine ks_aload_n (n := 109) S dX5_way_108 rfl rfl ?_
            refine ks_getr (n := 112) S dX5_way_109 rfl fl_X5_34 rfl rfl ?_
            refine ks_iload (n := 114) S dX5_way_112 rfl rfl ?_
            refine kf_s3i (n := 117) S dX5_way_114 rfl ml_X5_174 ym_X5_firstDoor (ev_X5_firstDoor rfl (by rw [f39]; exact ok) hz hT (by omega)) (by decide) (Nat.le_of_ble_eq_true rfl) ?_
            rw [f39]
            refine ks_iret S dX5_way_117 ?_
            first | exact qr_t hR hQ (by unfold A_way m_gi; rw [← e39, if_neg (by omega), if_neg (by omega), if_pos (by omega), if_neg (by omega), ← hpo]) | exact qr_t hR hQ (by unfold A_way m_di; rw [← e39, if_neg (by omega), if_neg (by omega), if_neg (by omega), if_pos (by omega), if_neg (by omega), ← hpo]) | exact qr_t hR hQ (by unfold A_way m_fd; rw [← e39, if_neg (by omega), if_neg (by omega), if_neg (by omega), if_neg (by omega), if_neg (by omega)])
          · skip
            refine ks_aload_n (n := 92) S dX5_way_91 rfl rfl ?_
            refine ks_getr (n := 95) S dX5_way_92 rfl fl_X5_34 rfl rfl ?_
            refine ks_iload (n := 97) S dX5_way_95 rfl rfl ?_
            refine ks_iaload (n := 98) S dX5_way_97 rfl rfl (by omega) ?_
            refine ks_bipush (n := 100) S dX5_way_98 rfl (by unfold iv; decide) ?_
            refine ks_irem (n := 101) S dX5_way_100 rfl (by omega) ?_
            refine ks_goto (n := 117) S dX5_way_101 rfl ?_
            refine ks_iret S dX5_way_117 ?_
            first | exact qr_t hR hQ (by unfold A_way m_gi; rw [← e39, if_neg (by omega), if_neg (by omega), if_pos (by omega), if_neg (by omega), ← hpo]) | exact qr_t hR hQ (by unfold A_way m_di; rw [← e39, if_neg (by omega), if_neg (by omega), if_neg (by omega), if_pos (by omega), if_neg (by omega), ← hpo]) | exact qr_t hR hQ (by unfold A_way m_fd; rw [← e39, if_neg (by omega), if_neg (by omega), if_neg (by omega), if_neg (by omega), if_neg (by omega)])
        · skip
          refine ks_aload_n (n := 74) S dX5_way_73 rfl rfl ?_
          refine ks_getr (n := 77) S dX5_way_74 rfl fl_X5_34 rfl rfl ?_
          refine ks_iload (n := 79) S dX5_way_77 rfl rfl ?_
          refine ks_iaload (n := 80) S dX5_way_79 rfl rfl (by omega) ?_
          refine ks_bipush (n := 82) S dX5_way_80 rfl (by unfold iv; decide) ?_
          refine ks_idiv (n := 83) S dX5_way_82 rfl (by omega) ?_
          refine ks_goto (n := 117) S dX5_way_83 rfl ?_
          refine ks_iret S dX5_way_117 ?_
          first | exact qr_t hR hQ (by unfold A_way m_gi; rw [← e39, if_neg (by omega), if_neg (by omega), if_pos (by omega), if_neg (by omega), ← hpo]) | exact qr_t hR hQ (by unfold A_way m_di; rw [← e39, if_neg (by omega), if_neg (by omega), if_neg (by omega), if_pos (by omega), if_neg (by omega), ← hpo]) | exact qr_t hR hQ (by unfold A_way m_fd; rw [← e39, if_neg (by omega), if_neg (by omega), if_neg (by omega), if_neg (by omega), if_neg (by omega)])
      · skip
        refine ks_bipush (n := 68) S dX5_way_66 rfl (by unfold iv; decide) ?_
        refine ks_iret S dX5_way_68 ?_
        exact qr_t hR hQ (by unfold A_way m_gi m_di m_fd; rw [← e39, if_neg (by omega), if_neg (by omega)]; simp only [if_pos (show 1000000000 ≤ m_tn (σ 39) o (aP (σ 39) p 1) by omega)]; (repeat' split) <;> rfl)
    · skip
      simp only [bi_eq, bi_ne, Classical.not_not] at h21
      refine ks_aload_n (n := 25) S dX5_way_24 rfl rfl ?_
      refine ks_bipush (n := 27) S dX5_way_25 rfl (by unfold iv; decide) ?_
      refine kf_v1i (n := 30) S dX5_way_27 rfl ml_X5_38 ym_X5_no (ev_X5_no (by omega)) (by decide) rfl (Nat.le_of_ble_eq_true rfl) ?_
      refine ks_iret S dX5_way_30 ?_
      exact qr_r hR (by unfold A_way; rw [← e39, if_neg (by omega), if_pos (by omega)])
  · skip
    simp only [bi_eq, bi_ne, Classical.not_not] at h6
    refine ks_aload_n (n := 10) S dX5_way_9 rfl rfl ?_
    refine ks_iconst (n := 11) S dX5_way_10 rfl (by unfold iv; decide) ?_
    refine kf_v1i (n := 14) S dX5_way_11 rfl ml_X5_38 ym_X5_no (ev_X5_no (by omega)) (by decide) rfl (Nat.le_of_ble_eq_true rfl) ?_
    refine ks_iret S dX5_way_14 ?_
    exact qr_r hR (by unfold A_way; rw [← e39, if_pos (by omega)])
theorem ok_way {p o w : Int} (h : OkM M) : OkM (A_way M p o w).2 := by unfold A_way; (repeat' split) <;> first | exact h | exact h.ref
end PUB11

