section PUB17
variable {l : Launch} {σ M : KS}
def A_fewest (M : KS) (p o : Int) : Int × KS := if ¬ ((0 ≤ p ∧ p ≤ M 39 1 - 1) ∧ (0 ≤ o ∧ o ≤ 6)) then (-1, rfM M (-1)) else (m_di (m_dz (M 39) (aP (M 39) p 1) o), M)
theorem m_bs_iv {q : Int → Bool} : ∀ n : Nat, iv (m_bs q n) := by
  intro n
  induction n with
  | zero => unfold m_bs iv; omega
  | succ n ih =>
    show iv (if q n = true then ib_or (m_bs q n) (ib_shl 1 n) else m_bs q n)
    split
    · exact iv_to _
    · exact ih
def m_nr (a : RW) (f r : Int) : Bool := decide (m_dz a f r < 1000000000)
def A_near (M : KS) (p : Int) : Int × KS := if ¬ (0 ≤ p ∧ p ≤ M 39 1 - 1) then (-1, rfM M (-1)) else (m_bs (m_nr (M 39) (aP (M 39) p 1)) 7, M)
theorem pc_fewest {p o : Int} (hM : OkM M) (hC : RC σ M) : Ev l yX4_fewest cX4_fewest 3 (some .int) 4 94 [kr 0, ki p, ki o] σ (QC (A_fewest M p o) σ) := by
  have R := hC.1
  have ok := hM.1
  have n9 := ok.1
  have n6 := ok.2.1
  refine ev_intro ym_X4_fewest.1 (Nat.le_of_ble_eq_true rfl) (fun hv hσ K S => ?_)
  have hv := hv
  show K 0 [some (kr 0), some (ki p), some (ki o)] [] σ
  refine ks_aload_n (n := 1) S dX4_fewest_0 rfl rfl ?_
  refine ks_getr (n := 4) S dX4_fewest_1 rfl fl_X4_10 rfl rfl ?_
  refine ks_iload_n (n := 5) S dX4_fewest_4 rfl rfl ?_
  refine kf_v1z (n := 8) S dX4_fewest_5 rfl ml_X4_99 ym_X0_hasPerson (ev_X0_hasPerson kq_H1 R) (by decide) kq_H1.o (Nat.le_of_ble_eq_true rfl) ?_
  refine ks_if_eq (n := 11) (tgt := 18) S dX4_fewest_8 rfl rfl (fun h8 => ?_) (fun h8 => ?_)
  · skip
    simp only [bi_eq, bi_ne, Classical.not_not] at h8
    refine ks_aload_n (n := 19) S dX4_fewest_18 rfl rfl ?_
    refine ks_iconst (n := 20) S dX4_fewest_19 rfl (by unfold iv; decide) ?_
    refine kf_v1i (n := 23) S dX4_fewest_20 rfl ml_X4_51 ym_X4_refuse (ev_X4_refuse (by omega)) (by decide) rfl (Nat.le_of_ble_eq_true rfl) ?_
    refine ks_iret S dX4_fewest_23 ?_
    exact qc_r hC (by omega) (by unfold A_fewest; rw [if_pos (by omega)])
  · skip
    simp only [bi_eq, bi_ne, Classical.not_not] at h8
    refine ks_iload_n (n := 12) S dX4_fewest_11 rfl rfl ?_
    refine kf_s1z (n := 15) S dX4_fewest_12 rfl ml_X4_130 ym_X4_isRoom (ev_X4_isRoom) (by decide) (Nat.le_of_ble_eq_true rfl) ?_
    refine ks_if_ne (n := 18) (tgt := 24) S dX4_fewest_15 rfl rfl (fun h15 => ?_) (fun h15 => ?_)
    · skip
      simp only [bi_eq, bi_ne, Classical.not_not] at h15
      have op := ok.2.2.2.2 p (by omega) (by omega)
      unfold OkP at op
      have hrp : 0 ≤ aP (M 39) p 1 ∧ aP (M 39) p 1 < 7 := by omega
      have ho : 0 ≤ o ∧ o < 7 := by omega
      have hrg := m_dz_rg ok ho hrp
      have hfb := m_f_b hrg
      refine ks_aload_n (n := 25) S dX4_fewest_24 rfl rfl ?_
      refine ks_getr (n := 28) S dX4_fewest_25 rfl fl_X4_36 rfl rfl ?_
      refine ks_v0v (n := 31) S dX4_fewest_28 rfl ml_X4_177 ym_X3_tollNothing (ev_X3_tollNothing) (by decide) rfl (Nat.le_of_ble_eq_true rfl) (fun τ28 q28 => ?_)
      obtain ⟨q1, F1, hz⟩ := q28
      have F2 : FrT σ τ28 := fun e he => F1 e (by omega)
      refine ks_aload_n (n := 32) S dX4_fewest_31 rfl rfl ?_
      refine ks_getr (n := 35) S dX4_fewest_32 rfl fl_X4_36 rfl rfl ?_
      refine ks_aload_n (n := 36) S dX4_fewest_35 rfl rfl ?_
      refine ks_getr (n := 39) S dX4_fewest_36 rfl fl_X4_10 rfl rfl ?_
      refine ks_iload_n (n := 40) S dX4_fewest_39 rfl rfl ?_
      refine ks_v2v (n := 43) S dX4_fewest_40 rfl ml_X4_180 ym_X3_leadTo (ev_X3_leadTo (g := fun _ => 0) kq_H1 (hC.fr F2).1 ok ho (fun d d0 d1 => ⟨(hz d d0 (by omega)).symm, by decide, by decide⟩)) (by decide) rfl (Nat.le_of_ble_eq_true rfl) (fun τ40 q40 => ?_)
      obtain ⟨q2, F3, hP⟩ := q40
      have F4 : FrT σ τ40 := F2.tr (fun e he => F3 e (by omega))
      have f1 := ((hC.fr F4).1.2.2.2.2 p (by omega) (by omega)).2.1
      have hpo : τ40 35 (aP (M 39) p 1) = m_f (m_dz (M 39) o (aP (M 39) p 1)) := hP _ hrp.1 hrp.2
      refine ks_aload_n (n := 44) S dX4_fewest_43 rfl rfl ?_
      refine ks_getr (n := 47) S dX4_fewest_44 rfl fl_X4_36 rfl rfl ?_
      refine ks_aload_n (n := 48) S dX4_fewest_47 rfl rfl ?_
      refine ks_getr (n := 51) S dX4_fewest_48 rfl fl_X4_10 rfl rfl ?_
      refine ks_getr (n := 54) S dX4_fewest_51 rfl fl_X4_105 kq_H1.o rfl ?_
      refine ks_iload_n (n := 55) S dX4_fewest_54 rfl rfl ?_
      refine ks_iaload (n := 56) S dX4_fewest_55 rfl kq_H1.a8 (by omega) ?_
      rw [f1]
      refine kf_v1i (n := 59) S dX4_fewest_56 rfl ml_X4_170 ym_X3_doorsFrom (ev_X3_doorsFrom hrp (by omega)) (by decide) rfl (Nat.le_of_ble_eq_true rfl) ?_
      refine ks_iret S dX4_fewest_59 ?_
      exact qc_t hC F4 (by unfold A_fewest; rw [if_neg (by omega), hpo, m_f_di hrg, m_dz_sym ok hrp ho])
    · skip
      simp only [bi_eq, bi_ne, Classical.not_not] at h15
      refine ks_aload_n (n := 19) S dX4_fewest_18 rfl rfl ?_
      refine ks_iconst (n := 20) S dX4_fewest_19 rfl (by unfold iv; decide) ?_
      refine kf_v1i (n := 23) S dX4_fewest_20 rfl ml_X4_51 ym_X4_refuse (ev_X4_refuse (by omega)) (by decide) rfl (Nat.le_of_ble_eq_true rfl) ?_
      refine ks_iret S dX4_fewest_23 ?_
      exact qc_r hC (by omega) (by unfold A_fewest; rw [if_pos (by omega)])
theorem pr_fewest {p o : Int} (hM : OkM M) (hR : RR σ M) : Ev l yX5_fewest cX5_fewest 3 (some .int) 3 65 [kr 38, ki p, ki o] σ (QR (A_fewest M p o) σ) := by
  have e39 : σ 39 = M 39 := hR.1
  have ok : OkR (σ 39) := by rw [e39]; exact hM.1
  have n9 := ok.1
  have n6 := ok.2.1
  refine ev_intro ym_X5_fewest.1 (Nat.le_of_ble_eq_true rfl) (fun hv hσ K S => ?_)
  have hv := hv
  show K 0 [some (kr 38), some (ki p), some (ki o)] [] σ
  refine ks_aload_n (n := 1) S dX5_fewest_0 rfl rfl ?_
  refine ks_iload_n (n := 2) S dX5_fewest_1 rfl rfl ?_
  refine ks_iload_n (n := 3) S dX5_fewest_2 rfl rfl ?_
  refine kf_v2z (n := 6) S dX5_fewest_3 rfl ml_X5_168 ym_X5_areWrong (ev_X5_areWrong n6) (by decide) rfl (Nat.le_of_ble_eq_true rfl) ?_
  refine ks_if_eq (n := 9) (tgt := 17) S dX5_fewest_6 rfl rfl (fun h6 => ?_) (fun h6 => ?_)
  · skip
    simp only [bi_eq, bi_ne, Classical.not_not] at h6
    have op := ok.2.2.2.2 p (by omega) (by omega)
    unfold OkP at op
    have f1 : σ 39 (57 + 3 * p + 1) = aP (σ 39) p 1 := rfl
    refine ks_aload_n (n := 18) S dX5_fewest_17 rfl rfl ?_
    refine ks_aload_n (n := 19) S dX5_fewest_18 rfl rfl ?_
    refine ks_getr (n := 22) S dX5_fewest_19 rfl fl_X5_9 rfl rfl ?_
    refine ks_iload_n (n := 23) S dX5_fewest_22 rfl rfl ?_
    refine ks_iconst (n := 24) S dX5_fewest_23 rfl (by unfold iv; decide) ?_
    refine kf_s2i (n := 27) S dX5_fewest_24 rfl ml_X5_55 ym_X5_ofP (ev_X5_ofP (by omega) (by omega)) (by decide) (Nat.le_of_ble_eq_true rfl) ?_
    refine ks_iaload (n := 28) S dX5_fewest_27 rfl rfl (by omega) ?_
    rw [f1]
    refine ks_iload_n (n := 29) S dX5_fewest_28 rfl rfl ?_
    refine kf_v2i (n := 32) S dX5_fewest_29 rfl ml_X5_181 ym_X5_fewestFrom (ev_X5_fewestFrom ok (by omega) (by omega)) (by decide) rfl (Nat.le_of_ble_eq_true rfl) ?_
    refine ks_iret S dX5_fewest_32 ?_
    first | exact qr_r hR (by unfold A_fewest; rw [← e39, if_pos (by omega)]) | exact qr_a hR (by unfold A_fewest; rw [← e39, if_neg (by omega)])
  · skip
    simp only [bi_eq, bi_ne, Classical.not_not] at h6
    refine ks_aload_n (n := 10) S dX5_fewest_9 rfl rfl ?_
    refine ks_iconst (n := 11) S dX5_fewest_10 rfl (by unfold iv; decide) ?_
    refine kf_v1i (n := 14) S dX5_fewest_11 rfl ml_X5_38 ym_X5_no (ev_X5_no (by omega)) (by decide) rfl (Nat.le_of_ble_eq_true rfl) ?_
    refine ks_goto (n := 32) S dX5_fewest_14 rfl ?_
    refine ks_iret S dX5_fewest_32 ?_
    first | exact qr_r hR (by unfold A_fewest; rw [← e39, if_pos (by omega)]) | exact qr_a hR (by unfold A_fewest; rw [← e39, if_neg (by omega)])
theorem pc_near {p : Int} (hM : OkM M) (hC : RC σ M) : Ev l yX4_near cX4_near 4 (some .int) 4 94 [kr 0, ki p] σ (QC (A_near M p) σ) := by
  have R := hC.1
  have ok := hM.1
  have n9 := ok.1
  have n6 := ok.2.1
  refine ev_intro ym_X4_near.1 (Nat.le_of_ble_eq_true rfl) (fun hv hσ K S => ?_)
  have hv := hv
  show K 0 [some (kr 0), some (ki p), none, none] [] σ
  refine kq_use (fun (hp : 0 ≤ p ∧ p < M 39 1) (τ : KS) (F : FrT σ τ) (hP : m_PT τ (m_dz (M 39) (aP (M 39) p 1))) => kq_for (α := Unit) 7 (fun i _ => 0 ≤ i) (fun i _ => K 48 [some (kr 0), some (ki p), some (ki (m_bs (m_nr (M 39) (aP (M 39) p 1)) i.toNat)), some (ki i)] [] τ) ?_) (fun lp => ?_)
  · intro i _ hi i0 ih
    have op := ok.2.2.2.2 p hp.1 hp.2
    unfold OkP at op
    have hrp : 0 ≤ aP (M 39) p 1 ∧ aP (M 39) p 1 < 7 := by omega
    generalize hf : aP (M 39) p 1 = f at *
    have hfin : i = 7 → m_bs (m_nr (M 39) f) i.toNat = m_bs (m_nr (M 39) f) 7 := fun e => by rw [e]; rfl
    rw [m_bs_s i0] at ih
    generalize m_bs (m_nr (M 39) f) i.toNat = s at *
    refine ks_iload_n (n := 49) S dX4_near_48 rfl rfl ?_
    refine ks_bipush (n := 51) S dX4_near_49 rfl (by unfold iv; decide) ?_
    refine ks_icmp_ge (n := 54) (tgt := 79) S dX4_near_51 rfl rfl (fun h51 => ?_) (fun h51 => ?_)
    · skip
      refine ks_iload_n (n := 80) S dX4_near_79 rfl rfl ?_
      refine ks_iret S dX4_near_80 ?_
      exact qc_t hC F (by unfold A_near; rw [if_neg (by omega), hf, ← hfin (by omega)])
    · skip
      have hrg := m_dz_rg ok hrp (q := i) ⟨i0, by omega⟩
      have hfb := m_f_b hrg
      have hpo := hP i i0 (by omega)
      have h9 := (m_gi_9 hrg).1
      refine ks_aload_n (n := 55) S dX4_near_54 rfl rfl ?_
      refine ks_getr (n := 58) S dX4_near_55 rfl fl_X4_36 rfl rfl ?_
      refine ks_iload_n (n := 59) S dX4_near_58 rfl rfl ?_
      refine kf_v1i (n := 62) S dX4_near_59 rfl ml_X4_167 ym_X3_givenFrom (ev_X3_givenFrom (by omega) (by omega)) (by decide) rfl (Nat.le_of_ble_eq_true rfl) ?_
      rw [hpo, m_f_gi hrg]
      refine ks_bipush (n := 64) S dX4_near_62 rfl (by unfold iv; decide) ?_
      refine ks_icmp_eq (n := 67) (tgt := 73) S dX4_near_64 rfl rfl (fun h64 => ?_) (fun h64 => ?_)
      · skip
        refine ks_iinc (n := 76) S dX4_near_73 rfl rfl (by omega) (L' := fun yy => [some (kr 0), some (ki p), some (ki s), some (ki yy)]) (fun _ => rfl) (fun v3_73 hv73 => ?_)
        subst v3_73
        refine ks_goto (n := 48) S dX4_near_76 rfl ?_
        first | (rw [if_pos (show m_nr (M 39) f i = true by unfold m_nr; rw [decide_eq_true_eq]; omega)] at ih; exact ih () (by omega) (by omega)) | (rw [if_neg (show ¬ m_nr (M 39) f i = true by unfold m_nr; rw [decide_eq_true_eq]; omega)] at ih; exact ih () (by omega) (by omega))
      · skip
        refine ks_iload_n (n := 68) S dX4_near_67 rfl rfl ?_
        refine ks_iconst (n := 69) S dX4_near_68 rfl (by unfold iv; decide) ?_
        refine ks_iload_n (n := 70) S dX4_near_69 rfl rfl ?_
        refine ks_ishl (n := 71) S dX4_near_70 rfl ?_
        refine ks_ior (n := 72) S dX4_near_71 rfl ?_
        refine ks_istore_n (n := 73) S dX4_near_72 rfl rfl (L' := fun yy => [some (kr 0), some (ki p), some (ki yy), some (ki i)]) (Nat.le_of_ble_eq_true rfl) (fun _ => rfl) (fun v2_72 hv72 => ?_)
        subst v2_72
        refine ks_iinc (n := 76) S dX4_near_73 rfl rfl (by omega) (L' := fun yy => [some (kr 0), some (ki p), some (ki _), some (ki yy)]) (fun _ => rfl) (fun v3_73 hv73 => ?_)
        subst v3_73
        refine ks_goto (n := 48) S dX4_near_76 rfl ?_
        first | (rw [if_pos (show m_nr (M 39) f i = true by unfold m_nr; rw [decide_eq_true_eq]; omega)] at ih; exact ih () (by omega) (by omega)) | (rw [if_neg (show ¬ m_nr (M 39) f i = true by unfold m_nr; rw [decide_eq_true_eq]; omega)] at ih; exact ih () (by omega) (by omega))
  refine ks_aload_n (n := 1) S dX4_near_0 rfl rfl ?_
  refine ks_getr (n := 4) S dX4_near_1 rfl fl_X4_10 rfl rfl ?_
  refine ks_iload_n (n := 5) S dX4_near_4 rfl rfl ?_
  refine kf_v1z (n := 8) S dX4_near_5 rfl ml_X4_99 ym_X0_hasPerson (ev_X0_hasPerson kq_H1 R) (by decide) kq_H1.o (Nat.le_of_ble_eq_true rfl) ?_
  refine ks_if_ne (n := 11) (tgt := 17) S dX4_near_8 rfl rfl (fun h8 => ?_) (fun h8 => ?_)
  · skip
    simp only [bi_eq, bi_ne, Classical.not_not] at h8
    have op := ok.2.2.2.2 p (by omega) (by omega)
    unfold OkP at op
    have hrp : 0 ≤ aP (M 39) p 1 ∧ aP (M 39) p 1 < 7 := by omega
    refine ks_aload_n (n := 18) S dX4_near_17 rfl rfl ?_
    refine ks_getr (n := 21) S dX4_near_18 rfl fl_X4_36 rfl rfl ?_
    refine ks_v0v (n := 24) S dX4_near_21 rfl ml_X4_177 ym_X3_tollNothing (ev_X3_tollNothing) (by decide) rfl (Nat.le_of_ble_eq_true rfl) (fun τ21 q21 => ?_)
    obtain ⟨q1, F1, hz⟩ := q21
    have F2 : FrT σ τ21 := fun e he => F1 e (by omega)
    have f1 := ((hC.fr F2).1.2.2.2.2 p (by omega) (by omega)).2.1
    refine ks_aload_n (n := 25) S dX4_near_24 rfl rfl ?_
    refine ks_getr (n := 28) S dX4_near_25 rfl fl_X4_36 rfl rfl ?_
    refine ks_aload_n (n := 29) S dX4_near_28 rfl rfl ?_
    refine ks_getr (n := 32) S dX4_near_29 rfl fl_X4_10 rfl rfl ?_
    refine ks_aload_n (n := 33) S dX4_near_32 rfl rfl ?_
    refine ks_getr (n := 36) S dX4_near_33 rfl fl_X4_10 rfl rfl ?_
    refine ks_getr (n := 39) S dX4_near_36 rfl fl_X4_105 kq_H1.o rfl ?_
    refine ks_iload_n (n := 40) S dX4_near_39 rfl rfl ?_
    refine ks_iaload (n := 41) S dX4_near_40 rfl kq_H1.a8 (by omega) ?_
    rw [f1]
    refine ks_v2v (n := 44) S dX4_near_41 rfl ml_X4_180 ym_X3_leadTo (ev_X3_leadTo (g := fun _ => 0) kq_H1 (hC.fr F2).1 ok hrp (fun d d0 d1 => ⟨(hz d d0 (by omega)).symm, by decide, by decide⟩)) (by decide) rfl (Nat.le_of_ble_eq_true rfl) (fun τ41 q41 => ?_)
    obtain ⟨q2, F3, hP⟩ := q41
    have F4 : FrT σ τ41 := F2.tr (fun e he => F3 e (by omega))
    refine ks_iconst (n := 45) S dX4_near_44 rfl (by unfold iv; decide) ?_
    refine ks_istore_n (n := 46) S dX4_near_45 rfl rfl (L' := fun yy => [some (kr 0), some (ki p), some (ki yy), none]) (Nat.le_of_ble_eq_true rfl) (fun _ => rfl) (fun v2_45 hv45 => ?_)
    obtain rfl : v2_45 = 0 := by omega
    refine ks_iconst (n := 47) S dX4_near_46 rfl (by unfold iv; decide) ?_
    refine ks_istore_n (n := 48) S dX4_near_47 rfl rfl (L' := fun yy => [some (kr 0), some (ki p), some (ki (0)), some (ki yy)]) (Nat.le_of_ble_eq_true rfl) (fun _ => rfl) (fun v3_47 hv47 => ?_)
    obtain rfl : v3_47 = 0 := by omega
    exact lp (by omega) τ41 F4 hP 0 () (by omega) (Int.le_refl 0)
  · skip
    simp only [bi_eq, bi_ne, Classical.not_not] at h8
    refine ks_aload_n (n := 12) S dX4_near_11 rfl rfl ?_
    refine ks_iconst (n := 13) S dX4_near_12 rfl (by unfold iv; decide) ?_
    refine kf_v1i (n := 16) S dX4_near_13 rfl ml_X4_51 ym_X4_refuse (ev_X4_refuse (by omega)) (by decide) rfl (Nat.le_of_ble_eq_true rfl) ?_
    refine ks_iret S dX4_near_16 ?_
    exact qc_r hC (by omega) (by unfold A_near; rw [if_pos (by omega)])
theorem pr_near {p : Int} (hM : OkM M) (hR : RR σ M) : Ev l yX5_near cX5_near 4 (some .int) 2 47 [kr 38, ki p] σ (QR (A_near M p) σ) := by
  have e39 : σ 39 = M 39 := hR.1
  have ok : OkR (σ 39) := by rw [e39]; exact hM.1
  have n9 := ok.1
  have n6 := ok.2.1
  refine ev_intro ym_X5_near.1 (Nat.le_of_ble_eq_true rfl) (fun hv hσ K S => ?_)
  have hv := hv
  show K 0 [some (kr 38), some (ki p), none, none] [] σ
  refine kq_use (fun (hp : 0 ≤ p ∧ p < σ 39 1) => kq_for (α := Unit) 7 (fun i _ => 0 ≤ i) (fun i _ => K 18 [some (kr 38), some (ki p), some (ki (m_bs (m_nr (σ 39) (aP (σ 39) p 1)) i.toNat)), some (ki i)] [] σ) ?_) (fun lp => ?_)
  · intro i _ hi i0 ih
    have op := ok.2.2.2.2 p hp.1 hp.2
    unfold OkP at op
    have hrp : 0 ≤ aP (σ 39) p 1 ∧ aP (σ 39) p 1 < 7 := by omega
    have f1 : σ 39 (57 + 3 * p + 1) = aP (σ 39) p 1 := rfl
    have hiv := m_bs_iv (q := m_nr (σ 39) (aP (σ 39) p 1)) i.toNat
    generalize hf : aP (σ 39) p 1 = f at *
    have hfin : i = 7 → m_bs (m_nr (σ 39) f) i.toNat = m_bs (m_nr (σ 39) f) 7 := fun e => by rw [e]; rfl
    rw [m_bs_s i0] at ih
    generalize m_bs (m_nr (σ 39) f) i.toNat = s at *
    refine ks_iload_n (n := 19) S dX5_near_18 rfl rfl ?_
    refine ks_bipush (n := 21) S dX5_near_19 rfl (by unfold iv; decide) ?_
    refine ks_icmp_ge (n := 24) (tgt := 58) S dX5_near_21 rfl rfl (fun h21 => ?_) (fun h21 => ?_)
    · skip
      refine ks_iload_n (n := 59) S dX5_near_58 rfl rfl ?_
      refine ks_iret S dX5_near_59 ?_
      exact qr_a hR (by unfold A_near; rw [← e39, if_neg (by omega), hf, ← hfin (by omega)])
    · skip
      have hrg := m_dz_6 ok hrp (q := i) ⟨i0, by omega⟩
      have h9 : m_di (m_dz (σ 39) f i) < 0 ↔ ¬ m_dz (σ 39) f i < 1000000000 := by unfold m_di; split <;> omega
      refine ks_iload_n (n := 25) S dX5_near_24 rfl rfl ?_
      refine ks_aload_n (n := 26) S dX5_near_25 rfl rfl ?_
      refine ks_aload_n (n := 27) S dX5_near_26 rfl rfl ?_
      refine ks_getr (n := 30) S dX5_near_27 rfl fl_X5_9 rfl rfl ?_
      refine ks_iload_n (n := 31) S dX5_near_30 rfl rfl ?_
      refine ks_iconst (n := 32) S dX5_near_31 rfl (by unfold iv; decide) ?_
      refine kf_s2i (n := 35) S dX5_near_32 rfl ml_X5_55 ym_X5_ofP (ev_X5_ofP (by omega) (by omega)) (by decide) (Nat.le_of_ble_eq_true rfl) ?_
      refine ks_iaload (n := 36) S dX5_near_35 rfl rfl (by omega) ?_
      rw [f1]
      refine ks_iload_n (n := 37) S dX5_near_36 rfl rfl ?_
      refine kf_v2i (n := 40) S dX5_near_37 rfl ml_X5_181 ym_X5_fewestFrom (ev_X5_fewestFrom ok hrp (by omega)) (by decide) rfl (Nat.le_of_ble_eq_true rfl) ?_
      refine ks_if_lt (n := 43) (tgt := 49) S dX5_near_40 rfl rfl (fun h40 => ?_) (fun h40 => ?_)
      · skip
        refine ks_iconst (n := 50) S dX5_near_49 rfl (by unfold iv; decide) ?_
        refine ks_ior (n := 51) S dX5_near_50 rfl ?_
        first | rw [ib_or_0 hiv] | skip
        refine ks_istore_n (n := 52) S dX5_near_51 rfl rfl (L' := fun yy => [some (kr 38), some (ki p), some (ki yy), some (ki i)]) (Nat.le_of_ble_eq_true rfl) (fun _ => rfl) (fun v2_51 hv51 => ?_)
        subst v2_51
        refine ks_iinc (n := 55) S dX5_near_52 rfl rfl (by omega) (L' := fun yy => [some (kr 38), some (ki p), some (ki _), some (ki yy)]) (fun _ => rfl) (fun v3_52 hv52 => ?_)
        subst v3_52
        refine ks_goto (n := 18) S dX5_near_55 rfl ?_
        first | (rw [if_pos (show m_nr (σ 39) f i = true by unfold m_nr; rw [decide_eq_true_eq]; omega)] at ih; exact ih () (by omega) (by omega)) | (rw [if_neg (show ¬ m_nr (σ 39) f i = true by unfold m_nr; rw [decide_eq_true_eq]; omega)] at ih; exact ih () (by omega) (by omega))
      · skip
        refine ks_iconst (n := 44) S dX5_near_43 rfl (by unfold iv; decide) ?_
        refine ks_iload_n (n := 45) S dX5_near_44 rfl rfl ?_
        refine ks_ishl (n := 46) S dX5_near_45 rfl ?_
        refine ks_goto (n := 50) S dX5_near_46 rfl ?_
        refine ks_ior (n := 51) S dX5_near_50 rfl ?_
        first | rw [ib_or_0 hiv] | skip
        refine ks_istore_n (n := 52) S dX5_near_51 rfl rfl (L' := fun yy => [some (kr 38), some (ki p), some (ki yy), some (ki i)]) (Nat.le_of_ble_eq_true rfl) (fun _ => rfl) (fun v2_51 hv51 => ?_)
        subst v2_51
        refine ks_iinc (n := 55) S dX5_near_52 rfl rfl (by omega) (L' := fun yy => [some (kr 38), some (ki p), some (ki _), some (ki yy)]) (fun _ => rfl) (fun v3_52 hv52 => ?_)
        subst v3_52
        refine ks_goto (n := 18) S dX5_near_55 rfl ?_
        first | (rw [if_pos (show m_nr (σ 39) f i = true by unfold m_nr; rw [decide_eq_true_eq]; omega)] at ih; exact ih () (by omega) (by omega)) | (rw [if_neg (show ¬ m_nr (σ 39) f i = true by unfold m_nr; rw [decide_eq_true_eq]; omega)] at ih; exact ih () (by omega) (by omega))
  refine ks_aload_n (n := 1) S dX5_near_0 rfl rfl ?_
  refine ks_iload_n (n := 2) S dX5_near_1 rfl rfl ?_
  refine kf_v1z (n := 5) S dX5_near_2 rfl ml_X5_117 ym_X5_isPerson (ev_X5_isPerson n6) (by decide) rfl (Nat.le_of_ble_eq_true rfl) ?_
  refine ks_if_ne (n := 8) (tgt := 14) S dX5_near_5 rfl rfl (fun h5 => ?_) (fun h5 => ?_)
  · skip
    simp only [bi_eq, bi_ne, Classical.not_not] at h5
    refine ks_iconst (n := 15) S dX5_near_14 rfl (by unfold iv; decide) ?_
    refine ks_istore_n (n := 16) S dX5_near_15 rfl rfl (L' := fun yy => [some (kr 38), some (ki p), some (ki yy), none]) (Nat.le_of_ble_eq_true rfl) (fun _ => rfl) (fun v2_15 hv15 => ?_)
    obtain rfl : v2_15 = 0 := by omega
    refine ks_iconst (n := 17) S dX5_near_16 rfl (by unfold iv; decide) ?_
    refine ks_istore_n (n := 18) S dX5_near_17 rfl rfl (L' := fun yy => [some (kr 38), some (ki p), some (ki (0)), some (ki yy)]) (Nat.le_of_ble_eq_true rfl) (fun _ => rfl) (fun v3_17 hv17 => ?_)
    obtain rfl : v3_17 = 0 := by omega
    exact lp (by omega) 0 () (by omega) (Int.le_refl 0)
  · skip
    simp only [bi_eq, bi_ne, Classical.not_not] at h5
    refine ks_aload_n (n := 9) S dX5_near_8 rfl rfl ?_
    refine ks_iconst (n := 10) S dX5_near_9 rfl (by unfold iv; decide) ?_
    refine kf_v1i (n := 13) S dX5_near_10 rfl ml_X5_38 ym_X5_no (ev_X5_no (by omega)) (by decide) rfl (Nat.le_of_ble_eq_true rfl) ?_
    refine ks_iret S dX5_near_13 ?_
    exact qr_r hR (by unfold A_near; rw [← e39, if_pos (by omega)])
theorem ok_fewest {p o : Int} (h : OkM M) : OkM (A_fewest M p o).2 := by unfold A_fewest; (repeat' split) <;> first | exact h | exact h.ref
theorem ok_near {p : Int} (h : OkM M) : OkM (A_near M p).2 := by unfold A_near; (repeat' split) <;> first | exact h | exact h.ref
end PUB17

