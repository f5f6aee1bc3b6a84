section PUB18
variable {l : Launch} {σ M : KS}
theorem m_fd1_b {a b : RW} {T : RW} {o : Int} (h0 : b 0 = a 0) (n9 : 0 ≤ a 0 ∧ a 0 ≤ 9) (hD : ∀ e w, 0 ≤ e → e < 9 → 0 ≤ w → w < 4 → aD b e w = aD a e w) : m_fi (m_pd b (m_gv a) T o) (b 0).toNat 0 = m_fd1 a T o := by
  rw [h0]
  refine m_fi_g _ _ (fun j j0 j1 => ?_)
  unfold m_pd m_of m_by
  rw [hD j 2 j0 (by omega) (by omega) (by omega), hD j 3 j0 (by omega) (by omega) (by omega)]
def A_goes (M : KS) (p o : Int) : Int × KS := if ¬ ((0 ≤ p ∧ p ≤ M 39 1 - 1) ∧ (0 ≤ o ∧ o ≤ 6)) then (-1, rfM M (-1)) else if 1000000000 ≤ m_tn (M 39) o (aP (M 39) p 1) then (-9, M) else (aP (m_gw (M 39) (m_tn (M 39) o) p (m_tn (M 39) o (aP (M 39) p 1) % 100).toNat) p 2, M)
theorem pc_goes {p o : Int} (hM : OkM M) (hC : RC σ M) : Ev l yX4_goes cX4_goes 6 (some .int) 5 116 [kr 0, ki p, ki o] σ (QC (A_goes M p o) σ) := by
  have R := hC.1
  have ok := hM.1
  have n9 := ok.1
  have n6 := ok.2.1
  refine ev_intro ym_X4_goes.1 (Nat.le_of_ble_eq_true rfl) (fun hv hσ K S => ?_)
  have hv := hv
  show K 0 [some (kr 0), some (ki p), some (ki o), none, none, none] [] σ
  refine kq_use (fun (hp : 0 ≤ p ∧ p < M 39 1) (ho : 0 ≤ o ∧ o < 7) (hfi : m_tn (M 39) o (aP (M 39) p 1) < 1000000000) => kq_for (α := KS) (m_tn (M 39) o (aP (M 39) p 1) % 100) (fun i τ => 0 ≤ i ∧ FrT σ τ ∧ RepH τ 11 (m_gw (M 39) (m_tn (M 39) o) p i.toNat) ∧ m_PT τ (m_tn (M 39) o) ∧ (∀ d, 0 ≤ d → d < M 39 0 → m_gv (M 39) d = τ 34 d ∧ 0 ≤ m_gv (M 39) d ∧ m_gv (M 39) d ≤ 108) ∧ m_GI (M 39) (m_gw (M 39) (m_tn (M 39) o) p i.toNat) o p (m_tn (M 39) o (aP (M 39) p 1) % 100 - i)) (fun i τ => K 70 [some (kr 0), some (ki p), some (ki o), some (ki (m_tn (M 39) o (aP (M 39) p 1) % 100)), some (ki i), none] [] τ) ?_) (fun lp => ?_)
  · intro i τ hi inv ih
    obtain ⟨i0, F, R1, hP, hgd, GI⟩ := inv
    have hfin : i = m_tn (M 39) o (aP (M 39) p 1) % 100 → A_goes M p o = (aP (m_gw (M 39) (m_tn (M 39) o) p i.toNat) p 2, M) := fun e => by unfold A_goes; rw [if_neg (by omega), if_neg (by omega), ← e]
    rw [m_gw_s i0] at ih
    have hT := m_tn_PI (room := o) ok ho
    have hk9 : m_tn (M 39) o (aP (M 39) p 1) % 100 ≤ 99 := by omega
    generalize m_tn (M 39) o (aP (M 39) p 1) % 100 = k at *
    generalize m_gw (M 39) (m_tn (M 39) o) p i.toNat = b at *
    have GI' := GI
    obtain ⟨okb, zb, ⟨b0, b1, b2⟩, hD, hat, hfn, hmod⟩ := GI'
    have f1 := (R1.2.2.2.2 p hp.1 (by omega)).2.1
    have f2 := (R1.2.2.2.2 p hp.1 (by omega)).2.2
    have hfd := m_fd1_b (T := m_tn (M 39) o) (o := aP b p 1) b0 n9 hD
    refine ks_iload (n := 72) S dX4_goes_70 rfl rfl ?_
    refine ks_iload_n (n := 73) S dX4_goes_72 rfl rfl ?_
    refine ks_icmp_ge (n := 76) (tgt := 119) S dX4_goes_73 rfl rfl (fun h73 => ?_) (fun h73 => ?_)
    · skip
      refine ks_aload_n (n := 120) S dX4_goes_119 rfl rfl ?_
      refine ks_getr (n := 123) S dX4_goes_120 rfl fl_X4_16 rfl rfl ?_
      refine ks_getr (n := 126) S dX4_goes_123 rfl fl_X4_108 kq_H11.o rfl ?_
      refine ks_iload_n (n := 127) S dX4_goes_126 rfl rfl ?_
      refine ks_iaload (n := 128) S dX4_goes_127 rfl kq_H11.a9 (by omega) ?_
      refine ks_iret S dX4_goes_128 ?_
      exact qc_t hC F (by rw [hfin (by omega), f2])
    · skip
      obtain ⟨g1, g2, g3⟩ := m_GI_s ok ho hp (by omega) GI
      refine ks_aload_n (n := 77) S dX4_goes_76 rfl rfl ?_
      refine ks_getr (n := 80) S dX4_goes_77 rfl fl_X4_36 rfl rfl ?_
      refine ks_aload_n (n := 81) S dX4_goes_80 rfl rfl ?_
      refine ks_getr (n := 84) S dX4_goes_81 rfl fl_X4_16 rfl rfl ?_
      refine ks_aload_n (n := 85) S dX4_goes_84 rfl rfl ?_
      refine ks_getr (n := 88) S dX4_goes_85 rfl fl_X4_16 rfl rfl ?_
      refine ks_getr (n := 91) S dX4_goes_88 rfl fl_X4_105 kq_H11.o rfl ?_
      refine ks_iload_n (n := 92) S dX4_goes_91 rfl rfl ?_
      refine ks_iaload (n := 93) S dX4_goes_92 rfl kq_H11.a8 (by omega) ?_
      rw [f1]
      refine kf_v2i (n := 96) S dX4_goes_93 rfl ml_X4_173 ym_X3_doorFrom (ev_X3_doorFrom kq_H11 R1 okb hP hT hat (fun d d0 d1 => hgd d d0 (by omega))) (by decide) rfl (Nat.le_of_ble_eq_true rfl) ?_
      rw [if_neg (show ¬ 1000000000 ≤ m_tn (M 39) o (aP b p 1) by omega), hfd]
      refine ks_istore (n := 98) S dX4_goes_96 rfl (L' := fun yy => [some (kr 0), some (ki p), some (ki o), some (ki k), some (ki i), some (ki yy)]) (Nat.le_of_ble_eq_true rfl) (fun _ => rfl) (fun v5_96 hv96 => ?_)
      subst v5_96
      refine ks_iload (n := 100) S dX4_goes_98 rfl rfl ?_
      refine ks_if_lt (n := 103) (tgt := 113) S dX4_goes_100 rfl rfl (fun h100 => ?_) (fun h100 => ?_)
      · skip
        refine ks_iinc (n := 116) S dX4_goes_113 rfl rfl (by omega) (L' := fun yy => [some (kr 0), some (ki p), some (ki o), some (ki k), some (ki yy), some (ki _)]) (fun _ => rfl) (fun v4_113 hv113 => ?_)
        subst v4_113
        refine ks_goto (n := 70) S dX4_goes_116 rfl ?_
        refine ks_weak (L' := [some (kr 0), some (ki p), some (ki o), some (ki k), some (ki _), none]) S ((And.intro rfl (And.intro rfl (And.intro rfl (And.intro rfl (And.intro rfl True.intro)))))) ?_
        first | (exfalso; omega) | exact ih _ (by omega) ⟨by omega, F.tr (FrT.ofH F3), R3, fun q q0 q1 => by rw [F3 35 q (by omega)]; exact hP q q0 q1, fun d d0 d1 => by rw [F3 34 d (by omega)]; exact hgd d d0 d1, by rw [show k - (i + 1) = k - i - 1 by omega]; exact g3⟩
      · skip
        refine ks_aload_n (n := 104) S dX4_goes_103 rfl rfl ?_
        refine ks_getr (n := 107) S dX4_goes_104 rfl fl_X4_16 rfl rfl ?_
        refine ks_iload_n (n := 108) S dX4_goes_107 rfl rfl ?_
        refine ks_iload (n := 110) S dX4_goes_108 rfl rfl ?_
        refine ks_v2v (n := 113) S dX4_goes_110 rfl ml_X4_118 ym_X0_open (ev_X0_open kq_H11 R1 okb (by omega) (by omega) g2) (by decide) kq_H11.o (Nat.le_of_ble_eq_true rfl) (fun τ110 q110 => ?_)
        obtain ⟨-, R3, F3⟩ := q110
        refine ks_iinc (n := 116) S dX4_goes_113 rfl rfl (by omega) (L' := fun yy => [some (kr 0), some (ki p), some (ki o), some (ki k), some (ki yy), some (ki _)]) (fun _ => rfl) (fun v4_113 hv113 => ?_)
        subst v4_113
        refine ks_goto (n := 70) S dX4_goes_116 rfl ?_
        refine ks_weak (L' := [some (kr 0), some (ki p), some (ki o), some (ki k), some (ki _), none]) S ((And.intro rfl (And.intro rfl (And.intro rfl (And.intro rfl (And.intro rfl True.intro)))))) ?_
        first | (exfalso; omega) | exact ih _ (by omega) ⟨by omega, F.tr (FrT.ofH F3), R3, fun q q0 q1 => by rw [F3 35 q (by omega)]; exact hP q q0 q1, fun d d0 d1 => by rw [F3 34 d (by omega)]; exact hgd d d0 d1, by rw [show k - (i + 1) = k - i - 1 by omega]; exact g3⟩
  refine ks_aload_n (n := 1) S dX4_goes_0 rfl rfl ?_
  refine ks_getr (n := 4) S dX4_goes_1 rfl fl_X4_10 rfl rfl ?_
  refine ks_iload_n (n := 5) S dX4_goes_4 rfl rfl ?_
  refine kf_v1z (n := 8) S dX4_goes_5 rfl ml_X4_99 ym_X0_hasPerson (ev_X0_hasPerson kq_H1 R) (by decide) kq_H1.o (Nat.le_of_ble_eq_true rfl) ?_
  refine ks_if_eq (n := 11) (tgt := 18) S dX4_goes_8 rfl rfl (fun h8 => ?_) (fun h8 => ?_)
  · skip
    simp only [bi_eq, bi_ne, Classical.not_not] at h8
    refine ks_aload_n (n := 19) S dX4_goes_18 rfl rfl ?_
    refine ks_iconst (n := 20) S dX4_goes_19 rfl (by unfold iv; decide) ?_
    refine kf_v1i (n := 23) S dX4_goes_20 rfl ml_X4_51 ym_X4_refuse (ev_X4_refuse (by omega)) (by decide) rfl (Nat.le_of_ble_eq_true rfl) ?_
    refine ks_iret S dX4_goes_23 ?_
    exact qc_r hC (by omega) (by unfold A_goes; rw [if_pos (by omega)])
  · skip
    simp only [bi_eq, bi_ne, Classical.not_not] at h8
    refine ks_iload_n (n := 12) S dX4_goes_11 rfl rfl ?_
    refine kf_s1z (n := 15) S dX4_goes_12 rfl ml_X4_130 ym_X4_isRoom (ev_X4_isRoom) (by decide) (Nat.le_of_ble_eq_true rfl) ?_
    refine ks_if_ne (n := 18) (tgt := 24) S dX4_goes_15 rfl rfl (fun h15 => ?_) (fun h15 => ?_)
    · skip
      simp only [bi_eq, bi_ne, Classical.not_not] at h15
      refine ks_aload_n (n := 25) S dX4_goes_24 rfl rfl ?_
      refine ks_iload_n (n := 26) S dX4_goes_25 rfl rfl ?_
      refine ks_iconst (n := 27) S dX4_goes_26 rfl (by unfold iv; decide) ?_
      refine ks_v2v (n := 30) S dX4_goes_27 rfl ml_X4_164 ym_X4_findWaysTo (ev_X4_findWaysTo (g := m_gv (M 39)) hM hC (by omega) (by omega) (fun d d0 d1 => (m_ga_0 ok ⟨d0, d1⟩).symm)) (by decide) rfl (Nat.le_of_ble_eq_true rfl) (fun τ27 q27 => ?_)
      obtain ⟨q1, F, hP, hgd⟩ := q27
      have R2 := (hC.fr F).1
      have f1 := (R2.2.2.2.2 p (by omega) (by omega)).2.1
      have op := ok.2.2.2.2 p (by omega) (by omega)
      unfold OkP at op
      have hT := m_tn_PI (room := o) ok (by omega)
      have hrg := hT.rg (r := aP (M 39) p 1) (by omega)
      have hfb := m_f_b hrg
      have hpo : τ27 35 (aP (M 39) p 1) = m_f (m_tn (M 39) o (aP (M 39) p 1)) := hP _ (by omega) (by omega)
      have hdi : m_di (m_tn (M 39) o (aP (M 39) p 1)) = -9 ∧ 1000000000 ≤ m_tn (M 39) o (aP (M 39) p 1) ∨ m_di (m_tn (M 39) o (aP (M 39) p 1)) = m_tn (M 39) o (aP (M 39) p 1) % 100 ∧ m_tn (M 39) o (aP (M 39) p 1) < 1000000000 := by unfold m_di; split <;> omega
      refine ks_aload_n (n := 31) S dX4_goes_30 rfl rfl ?_
      refine ks_getr (n := 34) S dX4_goes_31 rfl fl_X4_36 rfl rfl ?_
      refine ks_aload_n (n := 35) S dX4_goes_34 rfl rfl ?_
      refine ks_getr (n := 38) S dX4_goes_35 rfl fl_X4_10 rfl rfl ?_
      refine ks_getr (n := 41) S dX4_goes_38 rfl fl_X4_105 kq_H1.o rfl ?_
      refine ks_iload_n (n := 42) S dX4_goes_41 rfl rfl ?_
      refine ks_iaload (n := 43) S dX4_goes_42 rfl kq_H1.a8 (by omega) ?_
      rw [f1]
      refine kf_v1i (n := 46) S dX4_goes_43 rfl ml_X4_170 ym_X3_doorsFrom (ev_X3_doorsFrom (by omega) (by omega)) (by decide) rfl (Nat.le_of_ble_eq_true rfl) ?_
      rw [hpo, m_f_di hrg]
      refine ks_istore_n (n := 47) S dX4_goes_46 rfl rfl (L' := fun yy => [some (kr 0), some (ki p), some (ki o), some (ki yy), none, none]) (Nat.le_of_ble_eq_true rfl) (fun _ => rfl) (fun v3_46 hv46 => ?_)
      subst v3_46
      refine ks_iload_n (n := 48) S dX4_goes_47 rfl rfl ?_
      refine ks_bipush (n := 50) S dX4_goes_48 rfl (by unfold iv; decide) ?_
      refine ks_icmp_ne (n := 53) (tgt := 56) S dX4_goes_50 rfl rfl (fun h50 => ?_) (fun h50 => ?_)
      · skip
        refine ks_aload_n (n := 57) S dX4_goes_56 rfl rfl ?_
        refine ks_getr (n := 60) S dX4_goes_57 rfl fl_X4_16 rfl rfl ?_
        refine ks_aload_n (n := 61) S dX4_goes_60 rfl rfl ?_
        refine ks_getr (n := 64) S dX4_goes_61 rfl fl_X4_10 rfl rfl ?_
        refine ks_v1v (n := 67) S dX4_goes_64 rfl ml_X4_66 ym_X0_copyFrom (ev_X0_copyFrom kq_H11 kq_H1 (by decide) R2 ok) (by decide) kq_H11.o (Nat.le_of_ble_eq_true rfl) (fun τ64 q64 => ?_)
        obtain ⟨-, R3, F3⟩ := q64
        refine ks_iconst (n := 68) S dX4_goes_67 rfl (by unfold iv; decide) ?_
        refine ks_istore (n := 70) S dX4_goes_68 rfl (L' := fun yy => [some (kr 0), some (ki p), some (ki o), some (ki _), some (ki yy), none]) (Nat.le_of_ble_eq_true rfl) (fun _ => rfl) (fun v4_68 hv68 => ?_)
        obtain rfl : v4_68 = 0 := by omega
        have hk : m_di (m_tn (M 39) o (aP (M 39) p 1)) = m_tn (M 39) o (aP (M 39) p 1) % 100 := by omega
        rw [hk]
        exact lp (by omega) (by omega) (by omega) 0 τ64 (by omega) ⟨by omega, F.tr (FrT.ofH F3), R3, fun q q0 q1 => by rw [F3 35 q (by omega)]; exact hP q q0 q1, fun d d0 d1 => by rw [F3 34 d (by omega)]; exact hgd d d0 d1, ok, hM.2.2.1, ⟨rfl, rfl, rfl⟩, fun _ _ _ _ _ _ => rfl, (show 0 ≤ aP (M 39) p 1 ∧ aP (M 39) p 1 < 7 by omega), (show m_tn (M 39) o (aP (M 39) p 1) < 1000000000 by omega), (show m_tn (M 39) o (aP (M 39) p 1) % 100 = m_tn (M 39) o (aP (M 39) p 1) % 100 - 0 by omega)⟩
      · skip
        refine ks_bipush (n := 55) S dX4_goes_53 rfl (by unfold iv; decide) ?_
        refine ks_iret S dX4_goes_55 ?_
        exact qc_t hC F (by unfold A_goes; rw [if_neg (by omega), if_pos (by omega)])
    · skip
      simp only [bi_eq, bi_ne, Classical.not_not] at h15
      refine ks_aload_n (n := 19) S dX4_goes_18 rfl rfl ?_
      refine ks_iconst (n := 20) S dX4_goes_19 rfl (by unfold iv; decide) ?_
      refine kf_v1i (n := 23) S dX4_goes_20 rfl ml_X4_51 ym_X4_refuse (ev_X4_refuse (by omega)) (by decide) rfl (Nat.le_of_ble_eq_true rfl) ?_
      refine ks_iret S dX4_goes_23 ?_
      exact qc_r hC (by omega) (by unfold A_goes; rw [if_pos (by omega)])
theorem ok_goes {p o : Int} (h : OkM M) : OkM (A_goes M p o).2 := by unfold A_goes; (repeat' split) <;> first | exact h | exact h.ref
end PUB18

