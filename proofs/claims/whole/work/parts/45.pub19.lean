section PUB19
variable {l : Launch} {σ M : KS}
theorem pr_goes {p o : Int} (hM : OkM M) (hR : RR σ M) : Ev l yX5_goes cX5_goes 5 (some .int) 4 92 [kr 38, ki p, ki o] σ (QR (A_goes M p o) σ) := by
  have e39 : σ 39 = M 39 := hR.1
  have ok : OkR (σ 39) := by rw [e39]; exact hM.1
  have n9 := ok.1
  have n6 := ok.2.1
  have z40 := hR.2.2.2.2.2.2.2.2.1
  have z39 : Zr (σ 39) := by rw [e39]; exact hM.2.2.1
  refine ev_intro ym_X5_goes.1 (Nat.le_of_ble_eq_true rfl) (fun hv hσ K S => ?_)
  have hv := hv
  show K 0 [some (kr 38), some (ki p), some (ki o), none, none] [] σ
  refine kq_use (fun (hp : 0 ≤ p ∧ p < σ 39 1) (ho : 0 ≤ o ∧ o < 7) (hfi : m_tn (σ 39) o (aP (σ 39) p 1) < 1000000000) => kq_for (α := KS) (m_tn (σ 39) o (aP (σ 39) p 1) % 100) (fun i τ => 0 ≤ i ∧ FrQ σ τ ∧ τ 40 = m_gw (σ 39) (m_tn (σ 39) o) p i.toNat ∧ m_EQ τ (m_tn (σ 39) o) ∧ m_GI (σ 39) (m_gw (σ 39) (m_tn (σ 39) o) p i.toNat) o p (m_tn (σ 39) o (aP (σ 39) p 1) % 100 - i)) (fun i τ => K 62 [some (kr 38), some (ki p), some (ki o), some (ki (aP (m_gw (σ 39) (m_tn (σ 39) o) p i.toNat) p 1)), none] [] τ) ?_) (fun lp => ?_)
  · intro i τ hi inv ih
    obtain ⟨i0, F, h40, hP, GI⟩ := inv
    have hfin : i = m_tn (σ 39) o (aP (σ 39) p 1) % 100 → A_goes M p o = (aP (m_gw (σ 39) (m_tn (σ 39) o) p i.toNat) p 2, M) := fun e => by unfold A_goes; rw [← e39, if_neg (by omega), if_neg (by omega), ← e]
    rw [m_gw_s i0] at ih
    have hT := m_tn_PI (room := o) ok ho
    have hg : ∀ d, 0 ≤ d → d < σ 39 0 → m_gv (σ 39) d ≤ 108 := fun d d0 d1 => (m_gv_b ok ⟨d0, d1⟩).2
    generalize m_tn (σ 39) o (aP (σ 39) p 1) % 100 = k at *
    generalize m_gw (σ 39) (m_tn (σ 39) o) p i.toNat = b at *
    have GI' := GI
    obtain ⟨okb, zb, ⟨b0, b1, b2⟩, hD, hat, hfn, hmod⟩ := GI'
    have f39 : τ 39 = σ 39 := F.1 39 (by omega)
    have hend : aP b p 1 = o ↔ i = k := by
      constructor
      · intro e
        have : m_tn (σ 39) o o = 0 := m_tl_0 ok hg ho
        rw [e, this] at hmod
        omega
      · intro e
        by_cases hne : aP b p 1 = o
        · exact hne
        · have h1 : 1 ≤ m_tn (σ 39) o (aP b p 1) := m_tl_pos ok hg ho hat hne
          rcases hT (aP b p 1) hat.1 hat.2 with h2 | ⟨h2, h3, -⟩ <;> omega
    have f2 : τ 40 (57 + 3 * p + 2) = aP b p 2 := by rw [h40]; rfl
    refine ks_iload_n (n := 63) S dX5_goes_62 rfl rfl ?_
    refine ks_iload_n (n := 64) S dX5_goes_63 rfl rfl ?_
    refine ks_icmp_eq (n := 67) (tgt := 105) S dX5_goes_64 rfl rfl (fun h64 => ?_) (fun h64 => ?_)
    · skip
      refine ks_aload_n (n := 106) S dX5_goes_105 rfl rfl ?_
      refine ks_getr (n := 109) S dX5_goes_106 rfl fl_X5_13 rfl rfl ?_
      refine ks_iload_n (n := 110) S dX5_goes_109 rfl rfl ?_
      refine ks_iconst (n := 111) S dX5_goes_110 rfl (by unfold iv; decide) ?_
      refine kf_s2i (n := 114) S dX5_goes_111 rfl ml_X5_55 ym_X5_ofP (ev_X5_ofP (by omega) (by omega)) (by decide) (Nat.le_of_ble_eq_true rfl) ?_
      refine ks_iaload (n := 115) S dX5_goes_114 rfl rfl (by omega) ?_
      refine ks_iret S dX5_goes_115 ?_
      exact qr_t hR F (by rw [hfin (by omega), f2])
    · skip
      obtain ⟨g1, g2, g3⟩ := m_GI_s ok ho hp (by omega) GI
      have hby : aP (m_open b p (m_fd1 (σ 39) (m_tn (σ 39) o) (aP b p 1))) p 1 = m_by (σ 39) (m_fd1 (σ 39) (m_tn (σ 39) o) (aP b p 1)) (aP b p 1) := by
        rw [m_open_pl hp.1 (by omega)]; unfold m_by
        rw [hD _ 2 g1.1 (by omega) (by omega) (by omega), hD _ 3 g1.1 (by omega) (by omega) (by omega)]
      rw [hby] at ih
      obtain ⟨o1, o2, o3, o4, o5, o6, o7, o8⟩ := ok.2.2.2.1 _ g1.1 g1.2
      refine ks_aload_n (n := 68) S dX5_goes_67 rfl rfl ?_
      refine ks_getr (n := 71) S dX5_goes_68 rfl fl_X5_9 rfl rfl ?_
      refine ks_aload_n (n := 72) S dX5_goes_71 rfl rfl ?_
      refine ks_getr (n := 75) S dX5_goes_72 rfl fl_X5_34 rfl rfl ?_
      refine ks_iload_n (n := 76) S dX5_goes_75 rfl rfl ?_
      refine kf_s3i (n := 79) S dX5_goes_76 rfl ml_X5_174 ym_X5_firstDoor (ev_X5_firstDoor rfl (by rw [f39]; exact ok) hP hT hat) (by decide) (Nat.le_of_ble_eq_true rfl) ?_
      rw [f39, show m_fi (m_pd (σ 39) (m_gv (σ 39)) (m_tn (σ 39) o) (aP b p 1)) (σ 39 0).toNat 0 = m_fd1 (σ 39) (m_tn (σ 39) o) (aP b p 1) from rfl]
      refine ks_istore (n := 81) S dX5_goes_79 rfl (L' := fun yy => [some (kr 38), some (ki p), some (ki o), some (ki (aP b p 1)), some (ki yy)]) (Nat.le_of_ble_eq_true rfl) (fun _ => rfl) (fun v4_79 hv79 => ?_)
      subst v4_79
      refine ks_aload_n (n := 82) S dX5_goes_81 rfl rfl ?_
      refine ks_getr (n := 85) S dX5_goes_82 rfl fl_X5_9 rfl rfl ?_
      refine ks_iload (n := 87) S dX5_goes_85 rfl rfl ?_
      refine ks_iload_n (n := 88) S dX5_goes_87 rfl rfl ?_
      refine kf_s3i (n := 91) S dX5_goes_88 rfl ml_X5_73 ym_X5_beyond (ev_X5_beyond rfl (by omega) (by rw [f39]; omega) (by rw [f39]; omega) (by omega)) (by decide) (Nat.le_of_ble_eq_true rfl) ?_
      rw [f39]
      refine ks_istore_n (n := 92) S dX5_goes_91 rfl rfl (L' := fun yy => [some (kr 38), some (ki p), some (ki o), some (ki yy), some (ki _)]) (Nat.le_of_ble_eq_true rfl) (fun _ => rfl) (fun v3_91 hv91 => ?_)
      subst v3_91
      refine ks_aload_n (n := 93) S dX5_goes_92 rfl rfl ?_
      refine ks_getr (n := 96) S dX5_goes_93 rfl fl_X5_13 rfl rfl ?_
      refine ks_iload_n (n := 97) S dX5_goes_96 rfl rfl ?_
      refine ks_iload (n := 99) S dX5_goes_97 rfl rfl ?_
      refine kf_s3v (n := 102) S dX5_goes_99 rfl ml_X5_127 ym_X5_opensIn (ev_X5_opensIn rfl (by rw [h40]; exact okb) (by rw [h40]; omega) (by rw [h40]; omega)) (by decide) (Nat.le_of_ble_eq_true rfl) ?_
      rw [h40]
      refine ks_goto (n := 62) S dX5_goes_102 rfl ?_
      refine ks_weak (L' := [some (kr 38), some (ki p), some (ki o), some (ki _), none]) S ((And.intro rfl (And.intro rfl (And.intro rfl (And.intro rfl True.intro))))) ?_
      exact ih _ (by omega) ⟨by omega, F.tr (FrQ.m g3.2.1), by rw [sr_r], fun q q0 q1 => by rw [sr_n (by decide)]; exact hP q q0 q1, by rw [show k - (i + 1) = k - i - 1 by omega]; exact g3⟩
  refine ks_aload_n (n := 1) S dX5_goes_0 rfl rfl ?_
  refine ks_iload_n (n := 2) S dX5_goes_1 rfl rfl ?_
  refine ks_iload_n (n := 3) S dX5_goes_2 rfl rfl ?_
  refine kf_v2z (n := 6) S dX5_goes_3 rfl ml_X5_168 ym_X5_areWrong (ev_X5_areWrong n6) (by decide) rfl (Nat.le_of_ble_eq_true rfl) ?_
  refine ks_if_eq (n := 9) (tgt := 15) S dX5_goes_6 rfl rfl (fun h6 => ?_) (fun h6 => ?_)
  · skip
    simp only [bi_eq, bi_ne, Classical.not_not] at h6
    refine ks_aload_n (n := 16) S dX5_goes_15 rfl rfl ?_
    refine ks_aload_n (n := 17) S dX5_goes_16 rfl rfl ?_
    refine ks_getr (n := 20) S dX5_goes_17 rfl fl_X5_9 rfl rfl ?_
    refine ks_iload_n (n := 21) S dX5_goes_20 rfl rfl ?_
    refine ks_bipush (n := 23) S dX5_goes_21 rfl (by unfold iv; decide) ?_
    refine ks_v3v (n := 26) S dX5_goes_23 rfl ml_X5_171 ym_X5_tolls (ev_X5_tolls rfl (by decide) ok (by omega)) (by decide) rfl (Nat.le_of_ble_eq_true rfl) (fun τ23 q23 => ?_)
    obtain ⟨q1, F, hz⟩ := q23
    have hQ : FrQ σ τ23 := FrQ.t47 F z40
    have op := ok.2.2.2.2 p (by omega) (by omega)
    unfold OkP at op
    rw [m_tl_9 ok, show m_tl (σ 39) (m_gv (σ 39)) o = m_tn (σ 39) o from rfl] at hz
    have hT := m_tn_PI (room := o) ok (by omega)
    have hrg := hT.rg (r := aP (σ 39) p 1) (by omega)
    have hpo := hz (aP (σ 39) p 1) (by omega) (by omega)
    have f39 : τ23 39 = σ 39 := F 39 (by decide)
    have f1 : τ23 39 (57 + 3 * p + 1) = aP (σ 39) p 1 := by rw [f39]; rfl
    refine ks_aload_n (n := 27) S dX5_goes_26 rfl rfl ?_
    refine ks_getr (n := 30) S dX5_goes_27 rfl fl_X5_9 rfl rfl ?_
    refine ks_iload_n (n := 31) S dX5_goes_30 rfl rfl ?_
    refine ks_iconst (n := 32) S dX5_goes_31 rfl (by unfold iv; decide) ?_
    refine kf_s2i (n := 35) S dX5_goes_32 rfl ml_X5_55 ym_X5_ofP (ev_X5_ofP (by omega) (by omega)) (by decide) (Nat.le_of_ble_eq_true rfl) ?_
    refine ks_iaload (n := 36) S dX5_goes_35 rfl rfl (by omega) ?_
    rw [f1]
    refine ks_istore_n (n := 37) S dX5_goes_36 rfl rfl (L' := fun yy => [some (kr 38), some (ki p), some (ki o), some (ki yy), none]) (Nat.le_of_ble_eq_true rfl) (fun _ => rfl) (fun v3_36 hv36 => ?_)
    subst v3_36
    refine ks_aload_n (n := 38) S dX5_goes_37 rfl rfl ?_
    refine ks_getr (n := 41) S dX5_goes_38 rfl fl_X5_34 rfl rfl ?_
    refine ks_iload_n (n := 42) S dX5_goes_41 rfl rfl ?_
    refine ks_iaload (n := 43) S dX5_goes_42 rfl rfl (by omega) ?_
    refine ks_ldc (n := 45) (x := 1000000000) S dX5_goes_43 rfl ct_X5_37 (by unfold iv; decide +kernel) ?_
    refine ks_icmp_lt (n := 48) (tgt := 51) S dX5_goes_45 rfl rfl (fun h45 => ?_) (fun h45 => ?_)
    · skip
      refine ks_aload_n (n := 52) S dX5_goes_51 rfl rfl ?_
      refine ks_getr (n := 55) S dX5_goes_52 rfl fl_X5_9 rfl rfl ?_
      refine ks_aload_n (n := 56) S dX5_goes_55 rfl rfl ?_
      refine ks_getr (n := 59) S dX5_goes_56 rfl fl_X5_13 rfl rfl ?_
      refine kf_s2v (n := 62) S dX5_goes_59 rfl ml_X5_137 ym_X5_copies (ev_X5_copies rfl rfl (by decide) (by rw [f39]; exact z39) hQ.2.2.2.2) (by decide) (Nat.le_of_ble_eq_true rfl) ?_
      rw [f39]
      exact lp (by omega) (by omega) (by omega) 0 _ (by omega) ⟨by omega, hQ.tr (FrQ.m z39), by rw [sr_r]; rfl, fun q q0 q1 => by rw [sr_n (by decide)]; exact hz q q0 q1, ok, z39, ⟨rfl, rfl, rfl⟩, fun _ _ _ _ _ _ => rfl, (show 0 ≤ aP (σ 39) p 1 ∧ aP (σ 39) p 1 < 7 by omega), (show m_tn (σ 39) o (aP (σ 39) p 1) < 1000000000 by omega), (show m_tn (σ 39) o (aP (σ 39) p 1) % 100 = m_tn (σ 39) o (aP (σ 39) p 1) % 100 - 0 by omega)⟩
    · skip
      refine ks_bipush (n := 50) S dX5_goes_48 rfl (by unfold iv; decide) ?_
      refine ks_iret S dX5_goes_50 ?_
      exact qr_t hR hQ (by unfold A_goes; rw [← e39, if_neg (by omega), if_pos (by omega)])
  · skip
    simp only [bi_eq, bi_ne, Classical.not_not] at h6
    refine ks_aload_n (n := 10) S dX5_goes_9 rfl rfl ?_
    refine ks_iconst (n := 11) S dX5_goes_10 rfl (by unfold iv; decide) ?_
    refine kf_v1i (n := 14) S dX5_goes_11 rfl ml_X5_38 ym_X5_no (ev_X5_no (by omega)) (by decide) rfl (Nat.le_of_ble_eq_true rfl) ?_
    refine ks_iret S dX5_goes_14 ?_
    exact qr_r hR (by unfold A_goes; rw [← e39, if_pos (by omega)])
end PUB19

