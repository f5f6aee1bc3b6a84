section PUB14
variable {l : Launch} {σ M : KS}
theorem m_fi_g {p : Int → Bool} {q : Int → Bool} : ∀ (k : Nat) (i : Int), (∀ j, i ≤ j → j < i + k → p j = q j) → m_fi p k i = m_fi q k i := by
  intro k
  induction k with
  | zero => intro i _; rfl
  | succ k ih =>
    intro i h
    show (if p i = true then i else m_fi p k (i + 1)) = (if q i = true then i else m_fi q k (i + 1))
    rw [h i (by omega) (by omega), ih (i + 1) (fun j h1 h2 => h j (by omega) (by omega))]
/-- nothing asked, the door d barred -/
def m_gn (d e : Int) : Int := if e = d then -1 else 0
theorem m_gn_f {a : RW} {d o f : Int} (ok : OkR a) (ho : 0 ≤ o ∧ o < 7) (hf : 0 ≤ f ∧ f < 7) : (m_gi (m_tl a (m_gn d) o f) = -9 ↔ m_gi (m_tl a (m_gb a d) o f) < 0) := by
  have hg : ∀ e, 0 ≤ e → e < a 0 → m_gn d e ≤ 108 ∧ m_gb a d e ≤ 108 ∧ (m_gn d e < 0 ↔ m_gb a d e < 0) := fun e e0 e1 => by
    have := m_gv_b ok ⟨e0, e1⟩
    unfold m_gn m_gb
    (repeat' split) <;> omega
  have h1 := (m_gi_9 ((m_PI_tl ok (fun e e0 e1 => (hg e e0 e1).1) ho).rg hf)).1
  have h2 := (m_gi_9 ((m_PI_tl ok (fun e e0 e1 => (hg e e0 e1).2.1) ho).rg hf)).2
  rw [h1, h2, m_FE_tl ok ho hg f hf.1 hf.2]
def m_sp (a : RW) (o f d : Int) : Bool := decide (m_gi (m_tl a (m_gb a d) o f) < 0)
def A_shut (M : KS) (p o : Int) : Int × KS := if ¬ ((0 ≤ p ∧ p ≤ M 39 1 - 1) ∧ (0 ≤ o ∧ o ≤ 6)) then (-1, rfM M (-1)) else if m_gi (m_tn (M 39) o (aP (M 39) p 1)) < 0 then (-9, M) else (m_fi (m_sp (M 39) o (aP (M 39) p 1)) (M 39 0).toNat 0, M)
theorem pc_shut {p o : Int} (hM : OkM M) (hC : RC σ M) : Ev l yX4_shut cX4_shut 5 (some .int) 5 116 [kr 0, ki p, ki o] σ (QC (A_shut M p o) σ) := by
  have R := hC.1
  have ok := hM.1
  have n9 := ok.1
  have n6 := ok.2.1
  refine ev_intro ym_X4_shut.1 (Nat.le_of_ble_eq_true rfl) (fun hv hσ K S => ?_)
  have hv := hv
  show K 0 [some (kr 0), some (ki p), some (ki o), none, none] [] σ
  refine kq_use (fun (hp : 0 ≤ p ∧ p < M 39 1) (ho : 0 ≤ o ∧ o < 7) (hfi : ¬ m_gi (m_tn (M 39) o (aP (M 39) p 1)) < 0) => kq_for (α := KS) (M 39 0) (fun i τ => 0 ≤ i ∧ FrT σ τ ∧ m_fi (m_sp (M 39) o (aP (M 39) p 1)) (M 39 0).toNat 0 = m_fi (m_sp (M 39) o (aP (M 39) p 1)) (M 39 0 - i).toNat i) (fun i τ => K 59 [some (kr 0), some (ki p), some (ki o), some (ki (aP (M 39) p 1)), some (ki i)] [] τ) ?_) (fun lp => ?_)
  · intro i τ hi inv ih
    obtain ⟨i0, F, hd⟩ := inv
    have op := ok.2.2.2.2 p hp.1 hp.2
    unfold OkP at op
    have hrp : 0 ≤ aP (M 39) p 1 ∧ aP (M 39) p 1 < 7 := by omega
    generalize hf : aP (M 39) p 1 = f at *
    have hab : ∀ e, 0 ≤ e → e < M 39 0 → m_gn i e ≤ 108 := fun e e0 e1 => by unfold m_gn; split <;> omega
    have hrg := (m_PI_tl (g := m_gn i) ok hab ho).rg hrp
    have hfb := m_f_b hrg
    have hff := m_gn_f (d := i) ok ho hrp
    have R1 := (hC.fr F).1
    have s0 : τ 1 0 = M 39 0 := R1.1
    refine ks_iload (n := 61) S dX4_shut_59 rfl rfl ?_
    refine ks_aload_n (n := 62) S dX4_shut_61 rfl rfl ?_
    refine ks_getr (n := 65) S dX4_shut_62 rfl fl_X4_10 rfl rfl ?_
    refine ks_getI (n := 68) (fi := 0) S dX4_shut_65 rfl fl_X4_161 kq_H1.o rfl rfl ?_
    refine ks_icmp_ge (n := 71) (tgt := 122) S dX4_shut_68 rfl rfl (fun h68 => ?_) (fun h68 => ?_)
    · skip
      refine ks_bipush (n := 124) S dX4_shut_122 rfl (by unfold iv; decide) ?_
      refine ks_iret S dX4_shut_124 ?_
      refine qc_t hC F ?_
      unfold A_shut
      rw [if_neg (by omega), hf, if_neg (by omega), hd, m_fi_0 (by omega)]
    · skip
      refine ks_aload_n (n := 72) S dX4_shut_71 rfl rfl ?_
      refine ks_getr (n := 75) S dX4_shut_72 rfl fl_X4_36 rfl rfl ?_
      refine ks_v0v (n := 78) S dX4_shut_75 rfl ml_X4_177 ym_X3_tollNothing (ev_X3_tollNothing) (by decide) rfl (Nat.le_of_ble_eq_true rfl) (fun τ75 q75 => ?_)
      obtain ⟨q1, F1, hz⟩ := q75
      refine ks_aload_n (n := 79) S dX4_shut_78 rfl rfl ?_
      refine ks_getr (n := 82) S dX4_shut_79 rfl fl_X4_36 rfl rfl ?_
      refine ks_iload (n := 84) S dX4_shut_82 rfl rfl ?_
      refine ks_iconst (n := 85) S dX4_shut_84 rfl (by unfold iv; decide) ?_
      refine kf_v2v (n := 88) S dX4_shut_85 rfl ml_X4_187 ym_X3_setToll (ev_X3_setToll (by omega)) (by decide) rfl (Nat.le_of_ble_eq_true rfl) ?_
      have F2 : FrT σ (kq_up τ75 34 i (-1)) := (F.tr (fun e he => F1 e (by omega))).up (by omega)
      have hgd : ∀ d, 0 ≤ d → d < M 39 0 → m_gn i d = kq_up τ75 34 i (-1) 34 d ∧ -1 ≤ m_gn i d ∧ m_gn i d ≤ 108 := fun d d0 d1 => by
        rw [kq_up_of]; unfold m_gn
        split
        · omega
        · rw [hz d d0 (by omega)]; omega
      refine ks_aload_n (n := 89) S dX4_shut_88 rfl rfl ?_
      refine ks_getr (n := 92) S dX4_shut_89 rfl fl_X4_36 rfl rfl ?_
      refine ks_aload_n (n := 93) S dX4_shut_92 rfl rfl ?_
      refine ks_getr (n := 96) S dX4_shut_93 rfl fl_X4_10 rfl rfl ?_
      refine ks_iload_n (n := 97) S dX4_shut_96 rfl rfl ?_
      refine ks_v2v (n := 100) S dX4_shut_97 rfl ml_X4_180 ym_X3_leadTo (ev_X3_leadTo kq_H1 (hC.fr F2).1 ok ho hgd) (by decide) rfl (Nat.le_of_ble_eq_true rfl) (fun τ97 q97 => ?_)
      obtain ⟨q2, F3, hP⟩ := q97
      have F4 : FrT σ τ97 := F2.tr (fun e he => F3 e (by omega))
      have hpo : τ97 35 f = m_f (m_tl (M 39) (m_gn i) o f) := hP f hrp.1 hrp.2
      have hv : (if 1000000 ≤ τ97 35 f then -9 else τ97 35 f / 16) = m_gi (m_tl (M 39) (m_gn i) o f) := by rw [hpo, m_f_gi hrg]
      refine ks_aload_n (n := 101) S dX4_shut_100 rfl rfl ?_
      refine ks_getr (n := 104) S dX4_shut_101 rfl fl_X4_36 rfl rfl ?_
      refine ks_iload_n (n := 105) S dX4_shut_104 rfl rfl ?_
      refine kf_v1i (n := 108) S dX4_shut_105 rfl ml_X4_167 ym_X3_givenFrom (ev_X3_givenFrom hrp (by omega)) (by decide) rfl (Nat.le_of_ble_eq_true rfl) ?_
      rw [hv]
      refine ks_bipush (n := 110) S dX4_shut_108 rfl (by unfold iv; decide) ?_
      refine ks_icmp_ne (n := 113) (tgt := 116) S dX4_shut_110 rfl rfl (fun h110 => ?_) (fun h110 => ?_)
      · skip
        refine ks_iinc (n := 119) S dX4_shut_116 rfl rfl (by omega) (L' := fun yy => [some (kr 0), some (ki p), some (ki o), some (ki f), some (ki yy)]) (fun _ => rfl) (fun v4_116 hv116 => ?_)
        subst v4_116
        refine ks_goto (n := 59) S dX4_shut_119 rfl ?_
        refine ih _ (by omega) ⟨by omega, F4, ?_⟩
        rw [hd, m_fi_s (by omega), if_neg]
        unfold m_sp
        rw [decide_eq_true_eq]
        omega
      · skip
        refine ks_iload (n := 115) S dX4_shut_113 rfl rfl ?_
        refine ks_iret S dX4_shut_115 ?_
        refine qc_t hC F4 ?_
        unfold A_shut
        rw [if_neg (by omega), hf, if_neg (by omega), hd, m_fi_s (by omega), if_pos]
        unfold m_sp
        rw [decide_eq_true_eq]
        omega
  refine ks_aload_n (n := 1) S dX4_shut_0 rfl rfl ?_
  refine ks_getr (n := 4) S dX4_shut_1 rfl fl_X4_10 rfl rfl ?_
  refine ks_iload_n (n := 5) S dX4_shut_4 rfl rfl ?_
  refine kf_v1z (n := 8) S dX4_shut_5 rfl ml_X4_99 ym_X0_hasPerson (ev_X0_hasPerson kq_H1 R) (by decide) kq_H1.o (Nat.le_of_ble_eq_true rfl) ?_
  refine ks_if_eq (n := 11) (tgt := 18) S dX4_shut_8 rfl rfl (fun h8 => ?_) (fun h8 => ?_)
  · skip
    simp only [bi_eq, bi_ne, Classical.not_not] at h8
    refine ks_aload_n (n := 19) S dX4_shut_18 rfl rfl ?_
    refine ks_iconst (n := 20) S dX4_shut_19 rfl (by unfold iv; decide) ?_
    refine kf_v1i (n := 23) S dX4_shut_20 rfl ml_X4_51 ym_X4_refuse (ev_X4_refuse (by omega)) (by decide) rfl (Nat.le_of_ble_eq_true rfl) ?_
    refine ks_iret S dX4_shut_23 ?_
    exact qc_r hC (by omega) (by unfold A_shut; rw [if_pos (by omega)])
  · skip
    simp only [bi_eq, bi_ne, Classical.not_not] at h8
    refine ks_iload_n (n := 12) S dX4_shut_11 rfl rfl ?_
    refine kf_s1z (n := 15) S dX4_shut_12 rfl ml_X4_130 ym_X4_isRoom (ev_X4_isRoom) (by decide) (Nat.le_of_ble_eq_true rfl) ?_
    refine ks_if_ne (n := 18) (tgt := 24) S dX4_shut_15 rfl rfl (fun h15 => ?_) (fun h15 => ?_)
    · skip
      simp only [bi_eq, bi_ne, Classical.not_not] at h15
      have op := ok.2.2.2.2 p (by omega) (by omega)
      unfold OkP at op
      have f0 := (R.2.2.2.2 p (by omega) (by omega)).2.1
      have hT := m_tn_PI (room := o) ok (by omega)
      have hrg := hT.rg (r := aP (M 39) p 1) (by omega)
      have hfb := m_f_b hrg
      have hgb := m_gi_b hrg
      have hrp : 0 ≤ aP (M 39) p 1 ∧ aP (M 39) p 1 < 7 := by omega
      refine ks_aload_n (n := 25) S dX4_shut_24 rfl rfl ?_
      refine ks_getr (n := 28) S dX4_shut_25 rfl fl_X4_10 rfl rfl ?_
      refine ks_getr (n := 31) S dX4_shut_28 rfl fl_X4_105 kq_H1.o rfl ?_
      refine ks_iload_n (n := 32) S dX4_shut_31 rfl rfl ?_
      refine ks_iaload (n := 33) S dX4_shut_32 rfl kq_H1.a8 (by omega) ?_
      rw [f0]
      refine ks_istore_n (n := 34) S dX4_shut_33 rfl rfl (L' := fun yy => [some (kr 0), some (ki p), some (ki o), some (ki yy), none]) (Nat.le_of_ble_eq_true rfl) (fun _ => rfl) (fun v3_33 hv33 => ?_)
      subst v3_33
      refine ks_aload_n (n := 35) S dX4_shut_34 rfl rfl ?_
      refine ks_iload_n (n := 36) S dX4_shut_35 rfl rfl ?_
      refine ks_iconst (n := 37) S dX4_shut_36 rfl (by unfold iv; decide) ?_
      refine ks_v2v (n := 40) S dX4_shut_37 rfl ml_X4_164 ym_X4_findWaysTo (ev_X4_findWaysTo (g := m_gv (M 39)) hM hC (by omega) (by omega) (fun d d0 d1 => (m_ga_0 ok ⟨d0, d1⟩).symm)) (by decide) rfl (Nat.le_of_ble_eq_true rfl) (fun τ37 q37 => ?_)
      obtain ⟨q1, F, hP, hgd⟩ := q37
      have hpo : τ37 35 (aP (M 39) p 1) = m_f (m_tn (M 39) o (aP (M 39) p 1)) := hP _ (by omega) (by omega)
      refine ks_aload_n (n := 41) S dX4_shut_40 rfl rfl ?_
      refine ks_getr (n := 44) S dX4_shut_41 rfl fl_X4_36 rfl rfl ?_
      refine ks_iload_n (n := 45) S dX4_shut_44 rfl rfl ?_
      refine kf_v1i (n := 48) S dX4_shut_45 rfl ml_X4_167 ym_X3_givenFrom (ev_X3_givenFrom (by omega) (by omega)) (by decide) rfl (Nat.le_of_ble_eq_true rfl) ?_
      rw [hpo, m_f_gi hrg]
      refine ks_bipush (n := 50) S dX4_shut_48 rfl (by unfold iv; decide) ?_
      refine ks_icmp_ne (n := 53) (tgt := 56) S dX4_shut_50 rfl rfl (fun h50 => ?_) (fun h50 => ?_)
      · skip
        refine ks_iconst (n := 57) S dX4_shut_56 rfl (by unfold iv; decide) ?_
        refine ks_istore (n := 59) S dX4_shut_57 rfl (L' := fun yy => [some (kr 0), some (ki p), some (ki o), some (ki _), some (ki yy)]) (Nat.le_of_ble_eq_true rfl) (fun _ => rfl) (fun v4_57 hv57 => ?_)
        obtain rfl : v4_57 = 0 := by omega
        exact lp (by omega) (by omega) (by omega) 0 _ n9.1 ⟨by omega, F, by rw [Int.sub_zero]⟩
      · skip
        refine ks_bipush (n := 55) S dX4_shut_53 rfl (by unfold iv; decide) ?_
        refine ks_iret S dX4_shut_55 ?_
        exact qc_t hC F (by unfold A_shut; rw [if_neg (by omega), if_pos (by omega)])
    · skip
      simp only [bi_eq, bi_ne, Classical.not_not] at h15
      refine ks_aload_n (n := 19) S dX4_shut_18 rfl rfl ?_
      refine ks_iconst (n := 20) S dX4_shut_19 rfl (by unfold iv; decide) ?_
      refine kf_v1i (n := 23) S dX4_shut_20 rfl ml_X4_51 ym_X4_refuse (ev_X4_refuse (by omega)) (by decide) rfl (Nat.le_of_ble_eq_true rfl) ?_
      refine ks_iret S dX4_shut_23 ?_
      exact qc_r hC (by omega) (by unfold A_shut; rw [if_pos (by omega)])
theorem pr_shut {p o : Int} (hM : OkM M) (hR : RR σ M) : Ev l yX5_shut cX5_shut 5 (some .int) 5 116 [kr 38, ki p, ki o] σ (QR (A_shut M p o) σ) := by
  have e39 : σ 39 = M 39 := hR.1
  have ok : OkR (σ 39) := by rw [e39]; exact hM.1
  have n9 := ok.1
  have n6 := ok.2.1
  have z40 := hR.2.2.2.2.2.2.2.2.1
  refine ev_intro ym_X5_shut.1 (Nat.le_of_ble_eq_true rfl) (fun hv hσ K S => ?_)
  have hv := hv
  show K 0 [some (kr 38), some (ki p), some (ki o), none, none] [] σ
  refine kq_use (fun (hp : 0 ≤ p ∧ p < σ 39 1) (ho : 0 ≤ o ∧ o < 7) (hfi : ¬ m_gi (m_tn (σ 39) o (aP (σ 39) p 1)) < 0) => kq_for (α := KS) (σ 39 0) (fun i τ => 0 ≤ i ∧ FrQ σ τ ∧ m_fi (m_sp (σ 39) o (aP (σ 39) p 1)) (σ 39 0).toNat 0 = m_fi (m_sp (σ 39) o (aP (σ 39) p 1)) (σ 39 0 - i).toNat i) (fun i τ => K 47 [some (kr 38), some (ki p), some (ki o), some (ki (aP (σ 39) p 1)), some (ki i)] [] τ) ?_) (fun lp => ?_)
  · intro i τ hi inv ih
    obtain ⟨i0, F, hd⟩ := inv
    have op := ok.2.2.2.2 p hp.1 hp.2
    unfold OkP at op
    have hrp : 0 ≤ aP (σ 39) p 1 ∧ aP (σ 39) p 1 < 7 := by omega
    generalize hf : aP (σ 39) p 1 = f at *
    have f39 : τ 39 = σ 39 := F.1 39 (by omega)
    have s0 : τ 39 0 = σ 39 0 := by rw [f39]
    refine ks_iload (n := 49) S dX5_shut_47 rfl rfl ?_
    refine ks_aload_n (n := 50) S dX5_shut_49 rfl rfl ?_
    refine ks_getr (n := 53) S dX5_shut_50 rfl fl_X5_9 rfl rfl ?_
    refine ks_iconst (n := 54) S dX5_shut_53 rfl (by unfold iv; decide) ?_
    refine ks_iaload (n := 55) S dX5_shut_54 rfl rfl (by omega) ?_
    refine ks_icmp_ge (n := 58) (tgt := 82) S dX5_shut_55 rfl rfl (fun h55 => ?_) (fun h55 => ?_)
    · skip
      refine ks_bipush (n := 84) S dX5_shut_82 rfl (by unfold iv; decide) ?_
      refine ks_iret S dX5_shut_84 ?_
      refine qr_t hR F ?_
      unfold A_shut
      rw [← e39, if_neg (by omega), hf, if_neg (by omega), hd, m_fi_0 (by omega)]
    · skip
      refine ks_aload_n (n := 59) S dX5_shut_58 rfl rfl ?_
      refine ks_aload_n (n := 60) S dX5_shut_59 rfl rfl ?_
      refine ks_getr (n := 63) S dX5_shut_60 rfl fl_X5_9 rfl rfl ?_
      refine ks_iload_n (n := 64) S dX5_shut_63 rfl rfl ?_
      refine ks_iload_n (n := 65) S dX5_shut_64 rfl rfl ?_
      refine ks_iload (n := 67) S dX5_shut_65 rfl rfl ?_
      refine ks_v4i (n := 70) S dX5_shut_67 rfl ml_X5_184 ym_X5_givenBy (ev_X5_givenBy rfl (by decide) (by rw [f39]; exact ok) hrp ho) (by decide) rfl (Nat.le_of_ble_eq_true rfl) (fun r67 τ67 q67 => ?_)
      obtain ⟨q1, F3⟩ := q67
      have q1 := kq_si q1
      rw [f39] at q1
      have F4 := F.tr (FrQ.t47 F3 F.2.2.2.2)
      refine ks_if_ge (n := 73) (tgt := 76) S dX5_shut_70 rfl rfl (fun h70 => ?_) (fun h70 => ?_)
      · skip
        refine ks_iinc (n := 79) S dX5_shut_76 rfl rfl (by omega) (L' := fun yy => [some (kr 38), some (ki p), some (ki o), some (ki f), some (ki yy)]) (fun _ => rfl) (fun v4_76 hv76 => ?_)
        subst v4_76
        refine ks_goto (n := 47) S dX5_shut_79 rfl ?_
        refine ih _ (by omega) ⟨by omega, F4, ?_⟩
        rw [hd, m_fi_s (by omega), if_neg]
        unfold m_sp
        rw [decide_eq_true_eq]
        omega
      · skip
        refine ks_iload (n := 75) S dX5_shut_73 rfl rfl ?_
        refine ks_iret S dX5_shut_75 ?_
        refine qr_t hR F4 ?_
        unfold A_shut
        rw [← e39, if_neg (by omega), hf, if_neg (by omega), hd, m_fi_s (by omega), if_pos]
        unfold m_sp
        rw [decide_eq_true_eq]
        omega
  refine ks_aload_n (n := 1) S dX5_shut_0 rfl rfl ?_
  refine ks_iload_n (n := 2) S dX5_shut_1 rfl rfl ?_
  refine ks_iload_n (n := 3) S dX5_shut_2 rfl rfl ?_
  refine kf_v2z (n := 6) S dX5_shut_3 rfl ml_X5_168 ym_X5_areWrong (ev_X5_areWrong n6) (by decide) rfl (Nat.le_of_ble_eq_true rfl) ?_
  refine ks_if_eq (n := 9) (tgt := 15) S dX5_shut_6 rfl rfl (fun h6 => ?_) (fun h6 => ?_)
  · skip
    simp only [bi_eq, bi_ne, Classical.not_not] at h6
    have op := ok.2.2.2.2 p (by omega) (by omega)
    unfold OkP at op
    have f1 : σ 39 (57 + 3 * p + 1) = aP (σ 39) p 1 := rfl
    refine ks_aload_n (n := 16) S dX5_shut_15 rfl rfl ?_
    refine ks_getr (n := 19) S dX5_shut_16 rfl fl_X5_9 rfl rfl ?_
    refine ks_iload_n (n := 20) S dX5_shut_19 rfl rfl ?_
    refine ks_iconst (n := 21) S dX5_shut_20 rfl (by unfold iv; decide) ?_
    refine kf_s2i (n := 24) S dX5_shut_21 rfl ml_X5_55 ym_X5_ofP (ev_X5_ofP (by omega) (by omega)) (by decide) (Nat.le_of_ble_eq_true rfl) ?_
    refine ks_iaload (n := 25) S dX5_shut_24 rfl rfl (by omega) ?_
    rw [f1]
    refine ks_istore_n (n := 26) S dX5_shut_25 rfl rfl (L' := fun yy => [some (kr 38), some (ki p), some (ki o), some (ki yy), none]) (Nat.le_of_ble_eq_true rfl) (fun _ => rfl) (fun v3_25 hv25 => ?_)
    subst v3_25
    refine ks_aload_n (n := 27) S dX5_shut_26 rfl rfl ?_
    refine ks_aload_n (n := 28) S dX5_shut_27 rfl rfl ?_
    refine ks_getr (n := 31) S dX5_shut_28 rfl fl_X5_9 rfl rfl ?_
    refine ks_iload_n (n := 32) S dX5_shut_31 rfl rfl ?_
    refine ks_iload_n (n := 33) S dX5_shut_32 rfl rfl ?_
    refine ks_bipush (n := 35) S dX5_shut_33 rfl (by unfold iv; decide) ?_
    refine ks_v4i (n := 38) S dX5_shut_35 rfl ml_X5_184 ym_X5_givenBy (ev_X5_givenBy rfl (by decide) ok (by omega) (by omega)) (by decide) rfl (Nat.le_of_ble_eq_true rfl) (fun r35 τ35 q35 => ?_)
    obtain ⟨q1, F⟩ := q35
    have q1 := kq_si q1
    rw [m_tl_9 ok] at q1
    replace q1 : r35 = m_gi (m_tn (σ 39) o (aP (σ 39) p 1)) := q1
    subst q1
    refine ks_if_ge (n := 41) (tgt := 44) S dX5_shut_38 rfl rfl (fun h38 => ?_) (fun h38 => ?_)
    · skip
      refine ks_iconst (n := 45) S dX5_shut_44 rfl (by unfold iv; decide) ?_
      refine ks_istore (n := 47) S dX5_shut_45 rfl (L' := fun yy => [some (kr 38), some (ki p), some (ki o), some (ki _), some (ki yy)]) (Nat.le_of_ble_eq_true rfl) (fun _ => rfl) (fun v4_45 hv45 => ?_)
      obtain rfl : v4_45 = 0 := by omega
      exact lp (by omega) (by omega) (by omega) 0 _ n9.1 ⟨by omega, FrQ.t47 F z40, by rw [Int.sub_zero]⟩
    · skip
      refine ks_bipush (n := 43) S dX5_shut_41 rfl (by unfold iv; decide) ?_
      refine ks_iret S dX5_shut_43 ?_
      exact qr_t hR (FrQ.t47 F z40) (by unfold A_shut; rw [← e39, if_neg (by omega), if_pos (by omega)])
  · skip
    simp only [bi_eq, bi_ne, Classical.not_not] at h6
    refine ks_aload_n (n := 10) S dX5_shut_9 rfl rfl ?_
    refine ks_iconst (n := 11) S dX5_shut_10 rfl (by unfold iv; decide) ?_
    refine kf_v1i (n := 14) S dX5_shut_11 rfl ml_X5_38 ym_X5_no (ev_X5_no (by omega)) (by decide) rfl (Nat.le_of_ble_eq_true rfl) ?_
    refine ks_iret S dX5_shut_14 ?_
    exact qr_r hR (by unfold A_shut; rw [← e39, if_pos (by omega)])
theorem ok_shut {p o : Int} (h : OkM M) : OkM (A_shut M p o).2 := by unfold A_shut; (repeat' split) <;> first | exact h | exact h.ref
end PUB14

