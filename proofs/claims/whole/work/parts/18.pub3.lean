section PUB3
variable {l : Launch} {σ M : KS}
theorem m_cold_iff {a : RW} {n : Int} (ok : OkR a) (hn : 0 ≤ n ∧ n ≤ 60) (h2 : a 2 ≤ 999) : m_allH (m_hours a n.toNat) = 0 ↔ ∀ d, 0 ≤ d → d < a 0 → m_mx 0 (aD a d 4 - n * m_cl a d) = 0 := by
  have h9 := ok.1
  obtain ⟨P1, P2⟩ := m_hours_pass ok n.toNat (by omega)
  rw [show ((n.toNat : Nat) : Int) = n by omega] at P1
  unfold m_allH
  rw [P1.1]
  rw [m_sum_0 (fun d h0 h1 => (P2.2.2.2.1 d h0 (by rw [P1.1]; omega)).2.2.2.2.2.1.1)]
  constructor
  · intro h d h0 h1
    rw [← (P1.2.2.2.1 d h0 h1).2.2.2.2.1]; exact h d h0 (by omega)
  · intro h d h0 h1
    have := (P1.2.2.2.1 d h0 (by omega)).2.2.2.2.1
    show aD (m_hours a n.toNat) d 4 = 0
    rw [this]; exact h d h0 (by omega)
def m_pc (a : RW) (n : Int) : Bool := decide (m_allH (m_hours a n.toNat) = 0)
theorem ev_X4_isColdAfter {n : Int} (hM : OkM M) (hC : RC σ M) (hn : 0 ≤ n ∧ n ≤ 60) : Ev l yX4_isColdAfter cX4_isColdAfter 3 (some .boolean) 3 66 [kr 0, ki n] σ (Rt (some (ki (bi (m_allH (m_hours (M 39) n.toNat) = 0)))) σ) := by
  have R := hC.1
  have ok := hM.1
  have n9 := ok.1
  have h999 := hM.2.1
  have s0 : σ 1 0 = M 39 0 := R.1
  have hiff := m_cold_iff ok hn h999
  refine ev_intro ym_X4_isColdAfter.1 (Nat.le_of_ble_eq_true rfl) (fun hv hσ K S => ?_)
  have hv := hv
  show K 0 [some (kr 0), some (ki n), none] [] σ
  refine kq_use (kq_for (α := Unit) (M 39 0) (fun i _ => 0 ≤ i ∧ ∀ d, 0 ≤ d → d < i → m_mx 0 (aD (M 39) d 4 - n * m_cl (M 39) d) = 0) (fun i _ => K 2 [some (kr 0), some (ki n), some (ki i)] [] σ) ?_) (fun lp => ?_)
  · intro i _ hi inv ih
    obtain ⟨i0, hd⟩ := inv
    refine ks_iload_n (n := 3) S dX4_isColdAfter_2 rfl rfl ?_
    refine ks_aload_n (n := 4) S dX4_isColdAfter_3 rfl rfl ?_
    refine ks_getr (n := 7) S dX4_isColdAfter_4 rfl fl_X4_10 rfl rfl ?_
    refine ks_getI (n := 10) (fi := 0) S dX4_isColdAfter_7 rfl fl_X4_161 kq_H1.o rfl rfl ?_
    refine ks_icmp_ge (n := 13) (tgt := 33) S dX4_isColdAfter_10 rfl rfl (fun h10 => ?_) (fun h10 => ?_)
    · skip
      refine ks_iconst (n := 34) S dX4_isColdAfter_33 rfl (by unfold iv; decide) ?_
      refine ks_zret S dX4_isColdAfter_34 (by first | exact Or.inl rfl | exact Or.inr rfl | exact bi_01) ?_
      exact rt_1 (hiff.mpr (fun d d0 d1 => hd d d0 (by omega)))
    · skip
      refine ks_aload_n (n := 14) S dX4_isColdAfter_13 rfl rfl ?_
      refine ks_getr (n := 17) S dX4_isColdAfter_14 rfl fl_X4_10 rfl rfl ?_
      refine ks_iload_n (n := 18) S dX4_isColdAfter_17 rfl rfl ?_
      refine ks_iload_n (n := 19) S dX4_isColdAfter_18 rfl rfl ?_
      refine kf_v2i (n := 22) S dX4_isColdAfter_19 rfl ml_X4_142 ym_X0_heatAfter (ev_X0_heatAfter kq_H1 R ok (by omega) hn) (by decide) kq_H1.o (Nat.le_of_ble_eq_true rfl) ?_
      refine ks_if_le (n := 25) (tgt := 27) S dX4_isColdAfter_22 rfl rfl (fun h22 => ?_) (fun h22 => ?_)
      · skip
        refine ks_iinc (n := 30) S dX4_isColdAfter_27 rfl rfl (by omega) (L' := fun y => [some (kr 0), some (ki n), some (ki y)]) (fun _ => rfl) (fun v2_27 hv27 => ?_)
        subst v2_27
        refine ks_goto (n := 2) S dX4_isColdAfter_30 rfl ?_
        refine ih () (by omega) ⟨by omega, fun d d0 d1 => ?_⟩
        by_cases hdi : d = i
        · subst hdi
          have : 0 ≤ m_mx 0 (aD (M 39) d 4 - n * m_cl (M 39) d) := by unfold m_mx; split <;> omega
          omega
        · exact hd d d0 (by omega)
      · skip
        refine ks_iconst (n := 26) S dX4_isColdAfter_25 rfl (by unfold iv; decide) ?_
        refine ks_zret S dX4_isColdAfter_26 (by first | exact Or.inl rfl | exact Or.inr rfl | exact bi_01) ?_
        exact rt_0 (fun h => by have := hiff.mp h i i0 (by omega); omega)
  refine ks_iconst (n := 1) S dX4_isColdAfter_0 rfl (by unfold iv; decide) ?_
  refine ks_istore_n (n := 2) S dX4_isColdAfter_1 rfl rfl (L' := fun y => [some (kr 0), some (ki n), some (ki y)]) (Nat.le_of_ble_eq_true rfl) (fun _ => rfl) (fun v2_1 hv1 => ?_)
  subst v2_1
  exact lp 0 () n9.1 ⟨by omega, fun d d0 d1 => by omega⟩
theorem ev_X4_cold (hM : OkM M) (hC : RC σ M) : Ev l yX4_cold cX4_cold 2 (some .int) 4 88 [kr 0] σ (Rt (some (ki (m_fi (m_pc (M 39)) 61 0))) σ) := by
  refine ev_intro ym_X4_cold.1 (Nat.le_of_ble_eq_true rfl) (fun hv hσ K S => ?_)
  have hv := hv
  show K 0 [some (kr 0), none] [] σ
  refine kq_use (kq_for (α := Unit) 61 (fun i _ => 0 ≤ i ∧ m_fi (m_pc (M 39)) 61 0 = m_fi (m_pc (M 39)) (61 - i).toNat i) (fun i _ => K 2 [some (kr 0), some (ki i)] [] σ) ?_) (fun lp => ?_)
  · intro i _ hi inv ih
    obtain ⟨i0, hd⟩ := inv
    refine ks_iload_n (n := 3) S dX4_cold_2 rfl rfl ?_
    refine ks_bipush (n := 5) S dX4_cold_3 rfl (by unfold iv; decide) ?_
    refine ks_icmp_gt (n := 8) (tgt := 24) S dX4_cold_5 rfl rfl (fun h5 => ?_) (fun h5 => ?_)
    · skip
      refine ks_bipush (n := 26) S dX4_cold_24 rfl (by unfold iv; decide) ?_
      refine ks_iret S dX4_cold_26 ?_
      exact rt_e (by rw [hd, m_fi_0 (by omega)])
    · skip
      refine ks_aload_n (n := 9) S dX4_cold_8 rfl rfl ?_
      refine ks_iload_n (n := 10) S dX4_cold_9 rfl rfl ?_
      refine kf_v1z (n := 13) S dX4_cold_10 rfl ml_X4_158 ym_X4_isColdAfter (ev_X4_isColdAfter hM hC (by omega)) (by decide) rfl (Nat.le_of_ble_eq_true rfl) ?_
      refine ks_if_eq (n := 16) (tgt := 18) S dX4_cold_13 rfl rfl (fun h13 => ?_) (fun h13 => ?_)
      · skip
        simp only [bi_eq, bi_ne] at h13
        refine ks_iinc (n := 21) S dX4_cold_18 rfl rfl (by omega) (L' := fun y => [some (kr 0), some (ki y)]) (fun _ => rfl) (fun v1_18 hv18 => ?_)
        subst v1_18
        refine ks_goto (n := 2) S dX4_cold_21 rfl ?_
        refine ih () (by omega) ⟨by omega, ?_⟩
        rw [hd, m_fi_s (by omega), if_neg (by unfold m_pc; simpa using h13)]
      · skip
        simp only [bi_eq, bi_ne] at h13
        refine ks_iload_n (n := 17) S dX4_cold_16 rfl rfl ?_
        refine ks_iret S dX4_cold_17 ?_
        exact rt_e (by rw [hd, m_fi_s (by omega), if_pos (by unfold m_pc; simpa using h13)])
  refine ks_iconst (n := 1) S dX4_cold_0 rfl (by unfold iv; decide) ?_
  refine ks_istore_n (n := 2) S dX4_cold_1 rfl rfl (L' := fun y => [some (kr 0), some (ki y)]) (Nat.le_of_ble_eq_true rfl) (fun _ => rfl) (fun v1_1 hv1 => ?_)
  subst v1_1
  exact lp 0 () (by omega) ⟨by omega, rfl⟩
theorem ev_X5_cold (hM : OkM M) (hR : RR σ M) : Ev l yX5_cold cX5_cold 2 (some .int) 3 64 [kr 38] σ (fun r τ => r = some (ki (m_fi (m_pc (M 39)) 61 0)) ∧ FrQ σ τ) := by
  have e39 : σ 39 = M 39 := hR.1
  have ok := hM.1
  have z39 := hM.2.2.1
  have h999 := hM.2.1
  have o2 := ok.2.2.1
  refine ev_intro ym_X5_cold.1 (Nat.le_of_ble_eq_true rfl) (fun hv hσ K S => ?_)
  have hv := hv
  show K 0 [some (kr 38), none] [] σ
  refine kq_use (kq_for (α := Unit) 61 (fun i _ => 0 ≤ i ∧ m_fi (m_pc (M 39)) 61 0 = m_fi (m_pc (M 39)) (61 - i).toNat i) (fun i _ => K 13 [some (kr 38), some (ki i)] [] (sr σ 40 (m_hours (M 39) i.toNat))) ?_) (fun lp => ?_)
  · intro i _ hi inv ih
    obtain ⟨i0, hd⟩ := inv
    obtain ⟨P1, P2⟩ := m_hours_pass ok i.toNat (by omega)
    have P3 := P1.2.2.1
    refine ks_iload_n (n := 14) S dX5_cold_13 rfl rfl ?_
    refine ks_bipush (n := 16) S dX5_cold_14 rfl (by unfold iv; decide) ?_
    refine ks_icmp_gt (n := 19) (tgt := 44) S dX5_cold_16 rfl rfl (fun h16 => ?_) (fun h16 => ?_)
    · skip
      refine ks_bipush (n := 46) S dX5_cold_44 rfl (by unfold iv; decide) ?_
      refine ks_iret S dX5_cold_46 ?_
      exact ⟨by rw [hd, m_fi_0 (by omega)], FrQ.m (m_hours_z ok z39 _ (by omega))⟩
    · skip
      refine ks_aload_n (n := 20) S dX5_cold_19 rfl rfl ?_
      refine ks_getr (n := 23) S dX5_cold_20 rfl fl_X5_13 rfl rfl ?_
      refine kf_s1i (n := 26) S dX5_cold_23 rfl ml_X5_148 ym_X5_allHeat (ev_X5_allHeat rfl (by rw [sr_r]; exact P2)) (by decide) (Nat.le_of_ble_eq_true rfl) ?_
      rw [sr_r]
      refine ks_if_ne (n := 29) (tgt := 31) S dX5_cold_26 rfl rfl (fun h26 => ?_) (fun h26 => ?_)
      · skip
        refine ks_aload_n (n := 32) S dX5_cold_31 rfl rfl ?_
        refine ks_getr (n := 35) S dX5_cold_32 rfl fl_X5_13 rfl rfl ?_
        refine kf_s1v (n := 38) S dX5_cold_35 rfl ml_X5_83 ym_X5_hour (ev_X5_hour rfl (by rw [sr_r]; exact P2) (by rw [sr_r, P3]; omega)) (by decide) (Nat.le_of_ble_eq_true rfl) ?_
        refine ks_iinc (n := 41) S dX5_cold_38 rfl rfl (by omega) (L' := fun y => [some (kr 38), some (ki y)]) (fun _ => rfl) (fun v1_38 hv38 => ?_)
        subst v1_38
        refine ks_goto (n := 13) S dX5_cold_41 rfl ?_
        rw [sr_r, sr_sr, ← m_hours_succ i0]
        refine ih () (by omega) ⟨by omega, ?_⟩
        rw [hd, m_fi_s (by omega), if_neg (by unfold m_pc; simpa using h26)]
      · skip
        refine ks_iload_n (n := 30) S dX5_cold_29 rfl rfl ?_
        refine ks_iret S dX5_cold_30 ?_
        exact ⟨by rw [hd, m_fi_s (by omega), if_pos (by unfold m_pc; simpa using h26)], FrQ.m (m_hours_z ok z39 _ (by omega))⟩
  refine ks_aload_n (n := 1) S dX5_cold_0 rfl rfl ?_
  refine ks_getr (n := 4) S dX5_cold_1 rfl fl_X5_9 rfl rfl ?_
  refine ks_aload_n (n := 5) S dX5_cold_4 rfl rfl ?_
  refine ks_getr (n := 8) S dX5_cold_5 rfl fl_X5_13 rfl rfl ?_
  refine kf_s2v (n := 11) S dX5_cold_8 rfl ml_X5_137 ym_X5_copies (ev_X5_copies rfl rfl (by decide) (by rw [e39]; exact z39) hR.2.2.2.2.2.2.2.2.1) (by decide) (Nat.le_of_ble_eq_true rfl) ?_
  refine ks_iconst (n := 12) S dX5_cold_11 rfl (by unfold iv; decide) ?_
  refine ks_istore_n (n := 13) S dX5_cold_12 rfl rfl (L' := fun y => [some (kr 38), some (ki y)]) (Nat.le_of_ble_eq_true rfl) (fun _ => rfl) (fun v1_12 hv12 => ?_)
  subst v1_12
  rw [e39]
  exact lp 0 () (by omega) ⟨by omega, rfl⟩
theorem ev_X4_hottest (hM : OkM M) (hC : RC σ M) : Ev l yX4_hottest cX4_hottest 4 (some .int) 3 64 [kr 0] σ (Rt (some (ki (m_am (m_gv (M 39)) (M 39 0).toNat))) σ) := by
  have R := hC.1
  have ok := hM.1
  have n9 := ok.1
  have n6 := ok.2.1
  have s0 : σ 1 0 = M 39 0 := R.1
  have fb : ∀ d, 0 ≤ d → d < (M 39 0) → 0 ≤ (m_gv (M 39)) d := fun d h0 h1 => (m_gives_b (k := aD (M 39) d 0) (ok.2.2.2.1 d h0 h1).2.1 (ok.2.2.2.1 d h0 h1).2.2.2.2.2.1).1
  refine ev_intro ym_X4_hottest.1 (Nat.le_of_ble_eq_true rfl) (fun hv hσ K S => ?_)
  have hv := hv
  show K 0 [some (kr 0), none, none, none] [] σ
  refine kq_use (kq_for (α := Int × Int) (M 39 0) (fun i s => 0 ≤ i ∧ s.1 = m_am (m_gv (M 39)) i.toNat ∧ s.2 = (if s.1 < 0 then -1 else (m_gv (M 39)) s.1)) (fun i s => K 7 [some (kr 0), some (ki s.1), some (ki s.2), some (ki i)] [] σ) ?_) (fun lp => ?_)
  · intro i s hi inv ih
    obtain ⟨b, t⟩ := s
    obtain ⟨i0, hb, ht⟩ := inv
    simp only at hb ht ⊢
    have hbb := m_am_b (m_gv (M 39)) i.toNat
    rw [← hb] at hbb
    refine ks_iload_n (n := 8) S dX4_hottest_7 rfl rfl ?_
    refine ks_aload_n (n := 9) S dX4_hottest_8 rfl rfl ?_
    refine ks_getr (n := 12) S dX4_hottest_9 rfl fl_X4_10 rfl rfl ?_
    refine ks_getI (n := 15) (fi := 0) S dX4_hottest_12 rfl fl_X4_161 kq_H1.o rfl rfl ?_
    refine ks_icmp_ge (n := 18) (tgt := 47) S dX4_hottest_15 rfl rfl (fun h15 => ?_) (fun h15 => ?_)
    · skip
      refine ks_iload_n (n := 48) S dX4_hottest_47 rfl rfl ?_
      refine ks_iret S dX4_hottest_48 ?_
      exact rt_e (by rw [hb]; congr 2; omega)
    · skip
      have q0 : 0 ≤ m_gv (M 39) i := fb i i0 (by omega)
      refine ks_aload_n (n := 19) S dX4_hottest_18 rfl rfl ?_
      refine ks_getr (n := 22) S dX4_hottest_19 rfl fl_X4_10 rfl rfl ?_
      refine ks_iload_n (n := 23) S dX4_hottest_22 rfl rfl ?_
      refine kf_v1i (n := 26) S dX4_hottest_23 rfl ml_X4_96 ym_X0_given (ev_X0_given kq_H1 R ok (by omega)) (by decide) kq_H1.o (Nat.le_of_ble_eq_true rfl) ?_
      refine ks_iload_n (n := 27) S dX4_hottest_26 rfl rfl ?_
      refine ks_icmp_le (n := 30) (tgt := 41) S dX4_hottest_27 rfl rfl (fun h27 => ?_) (fun h27 => ?_)
      · skip
        refine ks_iinc (n := 44) S dX4_hottest_41 rfl rfl (by omega) (L' := fun y => [some (kr 0), some (ki b), some (ki t), some (ki y)]) (fun _ => rfl) (fun v3_41 hv41 => ?_)
        subst v3_41
        refine ks_goto (n := 7) S dX4_hottest_44 rfl ?_
        first | refine ih (i, m_gv (M 39) i) (by omega) ⟨by omega, ?_, ?_⟩ | refine ih (b, t) (by omega) ⟨by omega, ?_, ?_⟩
        · show _ = m_am (m_gv (M 39)) (i + 1).toNat
          rw [m_am_s i0, ← hb]
          by_cases hn : b < 0
          · rw [if_pos hn] at ht
            first | (exfalso; omega) | (rw [if_pos (Or.inl hn)])
          · rw [if_neg hn] at ht
            first | (rw [if_pos (Or.inr (by omega))]) | (rw [if_neg (by omega)])
        · dsimp only
          first | exact ht | (rw [if_neg (by omega)]; done) | (rw [if_neg (by omega)]; omega)
      · skip
        refine ks_aload_n (n := 31) S dX4_hottest_30 rfl rfl ?_
        refine ks_getr (n := 34) S dX4_hottest_31 rfl fl_X4_10 rfl rfl ?_
        refine ks_iload_n (n := 35) S dX4_hottest_34 rfl rfl ?_
        refine kf_v1i (n := 38) S dX4_hottest_35 rfl ml_X4_96 ym_X0_given (ev_X0_given kq_H1 R ok (by omega)) (by decide) kq_H1.o (Nat.le_of_ble_eq_true rfl) ?_
        refine ks_istore_n (n := 39) S dX4_hottest_38 rfl rfl (L' := fun y => [some (kr 0), some (ki b), some (ki y), some (ki i)]) (Nat.le_of_ble_eq_true rfl) (fun _ => rfl) (fun v2_38 hv38 => ?_)
        subst v2_38
        refine ks_iload_n (n := 40) S dX4_hottest_39 rfl rfl ?_
        refine ks_istore_n (n := 41) S dX4_hottest_40 rfl rfl (L' := fun y => [some (kr 0), some (ki y), some (ki _), some (ki i)]) (Nat.le_of_ble_eq_true rfl) (fun _ => rfl) (fun v1_40 hv40 => ?_)
        subst v1_40
        refine ks_iinc (n := 44) S dX4_hottest_41 rfl rfl (by omega) (L' := fun y => [some (kr 0), some (ki _), some (ki _), some (ki y)]) (fun _ => rfl) (fun v3_41 hv41 => ?_)
        subst v3_41
        refine ks_goto (n := 7) S dX4_hottest_44 rfl ?_
        first | refine ih (i, m_gv (M 39) i) (by omega) ⟨by omega, ?_, ?_⟩ | refine ih (b, t) (by omega) ⟨by omega, ?_, ?_⟩
        · show _ = m_am (m_gv (M 39)) (i + 1).toNat
          rw [m_am_s i0, ← hb]
          by_cases hn : b < 0
          · rw [if_pos hn] at ht
            first | (exfalso; omega) | (rw [if_pos (Or.inl hn)])
          · rw [if_neg hn] at ht
            first | (rw [if_pos (Or.inr (by omega))]) | (rw [if_neg (by omega)])
        · dsimp only
          first | exact ht | (rw [if_neg (by omega)]; done) | (rw [if_neg (by omega)]; omega)
  refine ks_bipush (n := 2) S dX4_hottest_0 rfl (by unfold iv; decide) ?_
  refine ks_istore_n (n := 3) S dX4_hottest_2 rfl rfl (L' := fun y => [some (kr 0), some (ki y), none, none]) (Nat.le_of_ble_eq_true rfl) (fun _ => rfl) (fun v1_2 hv2 => ?_)
  subst v1_2
  refine ks_iconst (n := 4) S dX4_hottest_3 rfl (by unfold iv; decide) ?_
  refine ks_istore_n (n := 5) S dX4_hottest_4 rfl rfl (L' := fun y => [some (kr 0), some (ki _), some (ki y), none]) (Nat.le_of_ble_eq_true rfl) (fun _ => rfl) (fun v2_4 hv4 => ?_)
  subst v2_4
  refine ks_iconst (n := 6) S dX4_hottest_5 rfl (by unfold iv; decide) ?_
  refine ks_istore_n (n := 7) S dX4_hottest_6 rfl rfl (L' := fun y => [some (kr 0), some (ki _), some (ki _), some (ki y)]) (Nat.le_of_ble_eq_true rfl) (fun _ => rfl) (fun v3_6 hv6 => ?_)
  subst v3_6
  exact lp 0 (-9, -1) (by omega) ⟨by omega, rfl, rfl⟩
theorem ev_X5_hottest (hM : OkM M) (hR : RR σ M) : Ev l yX5_hottest cX5_hottest 3 (some .int) 2 44 [kr 38] σ (Rt (some (ki (m_am (m_gv (M 39)) (M 39 0).toNat))) σ) := by
  have e39 : σ 39 = M 39 := hR.1
  have ok := hM.1
  have n9 := ok.1
  have n6 := ok.2.1
  have s0 : σ 39 0 = M 39 0 := by rw [e39]
  have s1 : σ 39 1 = M 39 1 := by rw [e39]
  have w1 : ∀ d, 0 ≤ d → d < M 39 0 → OkD (σ 39) d := fun d h0 h1 => by rw [e39]; exact ok.2.2.2.1 d h0 h1
  refine ev_intro ym_X5_hottest.1 (Nat.le_of_ble_eq_true rfl) (fun hv hσ K S => ?_)
  have hv := hv
  show K 0 [some (kr 38), none, none] [] σ
  refine kq_use (kq_for (α := Int) (M 39 0) (fun i b => 0 ≤ i ∧ b = m_am (m_gv (M 39)) i.toNat) (fun i b => K 5 [some (kr 38), some (ki b), some (ki i)] [] σ) ?_) (fun lp => ?_)
  · intro i b hi inv ih
    obtain ⟨i0, hb⟩ := inv
    have hbb := m_am_b (m_gv (M 39)) i.toNat
    rw [← hb] at hbb
    refine ks_iload_n (n := 6) S dX5_hottest_5 rfl rfl ?_
    refine ks_aload_n (n := 7) S dX5_hottest_6 rfl rfl ?_
    refine ks_getr (n := 10) S dX5_hottest_7 rfl fl_X5_9 rfl rfl ?_
    refine ks_iconst (n := 11) S dX5_hottest_10 rfl (by unfold iv; decide) ?_
    refine ks_iaload (n := 12) S dX5_hottest_11 rfl rfl (by omega) ?_
    refine ks_icmp_ge (n := 15) (tgt := 46) S dX5_hottest_12 rfl rfl (fun h12 => ?_) (fun h12 => ?_)
    · skip
      refine ks_iload_n (n := 47) S dX5_hottest_46 rfl rfl ?_
      refine ks_iret S dX5_hottest_47 ?_
      exact rt_e (by rw [hb]; congr 2; omega)
    · skip
      refine ks_iload_n (n := 16) S dX5_hottest_15 rfl rfl ?_
      refine ks_if_lt (n := 19) (tgt := 38) S dX5_hottest_16 rfl rfl (fun h16 => ?_) (fun h16 => ?_)
      · skip
        refine ks_iload_n (n := 39) S dX5_hottest_38 rfl rfl ?_
        refine ks_istore_n (n := 40) S dX5_hottest_39 rfl rfl (L' := fun y => [some (kr 38), some (ki y), some (ki i)]) (Nat.le_of_ble_eq_true rfl) (fun _ => rfl) (fun v1_39 hv39 => ?_)
        subst v1_39
        refine ks_iinc (n := 43) S dX5_hottest_40 rfl rfl (by omega) (L' := fun y => [some (kr 38), some (ki _), some (ki y)]) (fun _ => rfl) (fun v2_40 hv40 => ?_)
        subst v2_40
        refine ks_goto (n := 5) S dX5_hottest_43 rfl ?_
        refine ih _ (by omega) ⟨by omega, ?_⟩
        rw [m_am_s i0, ← hb]
        first | (rw [if_pos (Or.inl (by omega))]; done) | (rw [if_pos (Or.inr (by omega))]; done) | (rw [if_neg (by omega)]; done)
      · skip
        refine ks_aload_n (n := 20) S dX5_hottest_19 rfl rfl ?_
        refine ks_getr (n := 23) S dX5_hottest_20 rfl fl_X5_9 rfl rfl ?_
        refine ks_iload_n (n := 24) S dX5_hottest_23 rfl rfl ?_
        refine kf_s2i (n := 27) S dX5_hottest_24 rfl ml_X5_58 ym_X5_gives (ev_X5_gives rfl (by omega) (w1 i i0 (by omega)).2.1 (w1 i i0 (by omega)).2.2.2.2.2.1) (by decide) (Nat.le_of_ble_eq_true rfl) ?_
        refine ks_aload_n (n := 28) S dX5_hottest_27 rfl rfl ?_
        refine ks_getr (n := 31) S dX5_hottest_28 rfl fl_X5_9 rfl rfl ?_
        refine ks_iload_n (n := 32) S dX5_hottest_31 rfl rfl ?_
        refine kf_s2i (n := 35) S dX5_hottest_32 rfl ml_X5_58 ym_X5_gives (ev_X5_gives rfl (by omega) (w1 b (by omega) (by omega)).2.1 (w1 b (by omega) (by omega)).2.2.2.2.2.1) (by decide) (Nat.le_of_ble_eq_true rfl) ?_
        rw [e39]
        refine ks_icmp_le (n := 38) (tgt := 40) S dX5_hottest_35 rfl rfl (fun h35 => ?_) (fun h35 => ?_)
        · skip
          refine ks_iinc (n := 43) S dX5_hottest_40 rfl rfl (by omega) (L' := fun y => [some (kr 38), some (ki b), some (ki y)]) (fun _ => rfl) (fun v2_40 hv40 => ?_)
          subst v2_40
          refine ks_goto (n := 5) S dX5_hottest_43 rfl ?_
          refine ih _ (by omega) ⟨by omega, ?_⟩
          rw [m_am_s i0, ← hb]
          first | (rw [if_pos (Or.inl (by omega))]; done) | (rw [if_pos (Or.inr (by omega))]; done) | (rw [if_neg (by omega)]; done)
        · skip
          refine ks_iload_n (n := 39) S dX5_hottest_38 rfl rfl ?_
          refine ks_istore_n (n := 40) S dX5_hottest_39 rfl rfl (L' := fun y => [some (kr 38), some (ki y), some (ki i)]) (Nat.le_of_ble_eq_true rfl) (fun _ => rfl) (fun v1_39 hv39 => ?_)
          subst v1_39
          refine ks_iinc (n := 43) S dX5_hottest_40 rfl rfl (by omega) (L' := fun y => [some (kr 38), some (ki _), some (ki y)]) (fun _ => rfl) (fun v2_40 hv40 => ?_)
          subst v2_40
          refine ks_goto (n := 5) S dX5_hottest_43 rfl ?_
          refine ih _ (by omega) ⟨by omega, ?_⟩
          rw [m_am_s i0, ← hb]
          first | (rw [if_pos (Or.inl (by omega))]; done) | (rw [if_pos (Or.inr (by omega))]; done) | (rw [if_neg (by omega)]; done)
  refine ks_bipush (n := 2) S dX5_hottest_0 rfl (by unfold iv; decide) ?_
  refine ks_istore_n (n := 3) S dX5_hottest_2 rfl rfl (L' := fun y => [some (kr 38), some (ki y), none]) (Nat.le_of_ble_eq_true rfl) (fun _ => rfl) (fun v1_2 hv2 => ?_)
  subst v1_2
  refine ks_iconst (n := 4) S dX5_hottest_3 rfl (by unfold iv; decide) ?_
  refine ks_istore_n (n := 5) S dX5_hottest_4 rfl rfl (L' := fun y => [some (kr 38), some (ki _), some (ki y)]) (Nat.le_of_ble_eq_true rfl) (fun _ => rfl) (fun v2_4 hv4 => ?_)
  subst v2_4
  exact lp 0 (-9) (by omega) ⟨by omega, rfl⟩
theorem ev_X4_loudest (hM : OkM M) (hC : RC σ M) : Ev l yX4_loudest cX4_loudest 4 (some .int) 0 0 [kr 0] σ (Rt (some (ki (m_am (fun d => aD (M 39) d 4) (M 39 0).toNat))) σ) := by
  have R := hC.1
  have ok := hM.1
  have n9 := ok.1
  have n6 := ok.2.1
  have s0 : σ 1 0 = M 39 0 := R.1
  have fb : ∀ d, 0 ≤ d → d < (M 39 0) → 0 ≤ (fun d => aD (M 39) d 4) d := fun d h0 h1 => (ok.2.2.2.1 d h0 h1).2.2.2.2.2.1.1
  refine ev_intro ym_X4_loudest.1 (Nat.le_of_ble_eq_true rfl) (fun hv hσ K S => ?_)
  have hv := hv
  show K 0 [some (kr 0), none, none, none] [] σ
  refine kq_use (kq_for (α := Int × Int) (M 39 0) (fun i s => 0 ≤ i ∧ s.1 = m_am (fun d => aD (M 39) d 4) i.toNat ∧ s.2 = (if s.1 < 0 then -1 else (fun d => aD (M 39) d 4) s.1)) (fun i s => K 7 [some (kr 0), some (ki s.1), some (ki s.2), some (ki i)] [] σ) ?_) (fun lp => ?_)
  · intro i s hi inv ih
    obtain ⟨b, t⟩ := s
    obtain ⟨i0, hb, ht⟩ := inv
    simp only at hb ht ⊢
    have hbb := m_am_b (fun d => aD (M 39) d 4) i.toNat
    rw [← hb] at hbb
    refine ks_iload_n (n := 8) S dX4_loudest_7 rfl rfl ?_
    refine ks_aload_n (n := 9) S dX4_loudest_8 rfl rfl ?_
    refine ks_getr (n := 12) S dX4_loudest_9 rfl fl_X4_10 rfl rfl ?_
    refine ks_getI (n := 15) (fi := 0) S dX4_loudest_12 rfl fl_X4_161 kq_H1.o rfl rfl ?_
    refine ks_icmp_ge (n := 18) (tgt := 49) S dX4_loudest_15 rfl rfl (fun h15 => ?_) (fun h15 => ?_)
    · skip
      refine ks_iload_n (n := 50) S dX4_loudest_49 rfl rfl ?_
      refine ks_iret S dX4_loudest_50 ?_
      exact rt_e (by rw [hb]; congr 2; omega)
    · skip
      have q0 : 0 ≤ aD (M 39) i 4 := fb i i0 (by omega)
      have q1 : σ (1 + 5) i = aD (M 39) i 4 := (R.2.2.2.1 i i0 (by omega)).2.2.2.2.1
      refine ks_aload_n (n := 19) S dX4_loudest_18 rfl rfl ?_
      refine ks_getr (n := 22) S dX4_loudest_19 rfl fl_X4_10 rfl rfl ?_
      refine ks_getr (n := 25) S dX4_loudest_22 rfl fl_X4_90 kq_H1.o rfl ?_
      refine ks_iload_n (n := 26) S dX4_loudest_25 rfl rfl ?_
      refine ks_iaload (n := 27) S dX4_loudest_26 rfl kq_H1.a5 (by omega) ?_
      refine ks_iload_n (n := 28) S dX4_loudest_27 rfl rfl ?_
      refine ks_icmp_le (n := 31) (tgt := 43) S dX4_loudest_28 rfl rfl (fun h28 => ?_) (fun h28 => ?_)
      · skip
        refine ks_iinc (n := 46) S dX4_loudest_43 rfl rfl (by omega) (L' := fun y => [some (kr 0), some (ki b), some (ki t), some (ki y)]) (fun _ => rfl) (fun v3_43 hv43 => ?_)
        subst v3_43
        refine ks_goto (n := 7) S dX4_loudest_46 rfl ?_
        first | refine ih (i, σ (1 + 5) i) (by omega) ⟨by omega, ?_, ?_⟩ | refine ih (b, t) (by omega) ⟨by omega, ?_, ?_⟩
        · show _ = m_am (fun d => aD (M 39) d 4) (i + 1).toNat
          rw [m_am_s i0, ← hb]
          by_cases hn : b < 0
          · rw [if_pos hn] at ht
            first | (exfalso; omega) | (rw [if_pos (Or.inl hn)])
          · rw [if_neg hn] at ht
            first | (rw [if_pos (Or.inr (by omega))]) | (rw [if_neg (by omega)])
        · dsimp only
          first | exact ht | (rw [if_neg (by omega)]; done) | (rw [if_neg (by omega)]; omega)
      · skip
        refine ks_aload_n (n := 32) S dX4_loudest_31 rfl rfl ?_
        refine ks_getr (n := 35) S dX4_loudest_32 rfl fl_X4_10 rfl rfl ?_
        refine ks_getr (n := 38) S dX4_loudest_35 rfl fl_X4_90 kq_H1.o rfl ?_
        refine ks_iload_n (n := 39) S dX4_loudest_38 rfl rfl ?_
        refine ks_iaload (n := 40) S dX4_loudest_39 rfl kq_H1.a5 (by omega) ?_
        refine ks_istore_n (n := 41) S dX4_loudest_40 rfl rfl (L' := fun y => [some (kr 0), some (ki b), some (ki y), some (ki i)]) (Nat.le_of_ble_eq_true rfl) (fun _ => rfl) (fun v2_40 hv40 => ?_)
        subst v2_40
        refine ks_iload_n (n := 42) S dX4_loudest_41 rfl rfl ?_
        refine ks_istore_n (n := 43) S dX4_loudest_42 rfl rfl (L' := fun y => [some (kr 0), some (ki y), some (ki _), some (ki i)]) (Nat.le_of_ble_eq_true rfl) (fun _ => rfl) (fun v1_42 hv42 => ?_)
        subst v1_42
        refine ks_iinc (n := 46) S dX4_loudest_43 rfl rfl (by omega) (L' := fun y => [some (kr 0), some (ki _), some (ki _), some (ki y)]) (fun _ => rfl) (fun v3_43 hv43 => ?_)
        subst v3_43
        refine ks_goto (n := 7) S dX4_loudest_46 rfl ?_
        first | refine ih (i, σ (1 + 5) i) (by omega) ⟨by omega, ?_, ?_⟩ | refine ih (b, t) (by omega) ⟨by omega, ?_, ?_⟩
        · show _ = m_am (fun d => aD (M 39) d 4) (i + 1).toNat
          rw [m_am_s i0, ← hb]
          by_cases hn : b < 0
          · rw [if_pos hn] at ht
            first | (exfalso; omega) | (rw [if_pos (Or.inl hn)])
          · rw [if_neg hn] at ht
            first | (rw [if_pos (Or.inr (by omega))]) | (rw [if_neg (by omega)])
        · dsimp only
          first | exact ht | (rw [if_neg (by omega)]; done) | (rw [if_neg (by omega)]; omega)
  refine ks_bipush (n := 2) S dX4_loudest_0 rfl (by unfold iv; decide) ?_
  refine ks_istore_n (n := 3) S dX4_loudest_2 rfl rfl (L' := fun y => [some (kr 0), some (ki y), none, none]) (Nat.le_of_ble_eq_true rfl) (fun _ => rfl) (fun v1_2 hv2 => ?_)
  subst v1_2
  refine ks_iconst (n := 4) S dX4_loudest_3 rfl (by unfold iv; decide) ?_
  refine ks_istore_n (n := 5) S dX4_loudest_4 rfl rfl (L' := fun y => [some (kr 0), some (ki _), some (ki y), none]) (Nat.le_of_ble_eq_true rfl) (fun _ => rfl) (fun v2_4 hv4 => ?_)
  subst v2_4
  refine ks_iconst (n := 6) S dX4_loudest_5 rfl (by unfold iv; decide) ?_
  refine ks_istore_n (n := 7) S dX4_loudest_6 rfl rfl (L' := fun y => [some (kr 0), some (ki _), some (ki _), some (ki y)]) (Nat.le_of_ble_eq_true rfl) (fun _ => rfl) (fun v3_6 hv6 => ?_)
  subst v3_6
  exact lp 0 (-9, -1) (by omega) ⟨by omega, rfl, rfl⟩
theorem ev_X5_loudest (hM : OkM M) (hR : RR σ M) : Ev l yX5_loudest cX5_loudest 3 (some .int) 1 21 [kr 38] σ (Rt (some (ki (m_am (fun d => aD (M 39) d 4) (M 39 0).toNat))) σ) := by
  have e39 : σ 39 = M 39 := hR.1
  have ok := hM.1
  have n9 := ok.1
  have n6 := ok.2.1
  have s0 : σ 39 0 = M 39 0 := by rw [e39]
  have s1 : σ 39 1 = M 39 1 := by rw [e39]
  have w1 : True := trivial
  refine ev_intro ym_X5_loudest.1 (Nat.le_of_ble_eq_true rfl) (fun hv hσ K S => ?_)
  have hv := hv
  show K 0 [some (kr 38), none, none] [] σ
  refine kq_use (kq_for (α := Int) (M 39 0) (fun i b => 0 ≤ i ∧ b = m_am (fun d => aD (M 39) d 4) i.toNat) (fun i b => K 5 [some (kr 38), some (ki b), some (ki i)] [] σ) ?_) (fun lp => ?_)
  · intro i b hi inv ih
    obtain ⟨i0, hb⟩ := inv
    have hbb := m_am_b (fun d => aD (M 39) d 4) i.toNat
    rw [← hb] at hbb
    refine ks_iload_n (n := 6) S dX5_loudest_5 rfl rfl ?_
    refine ks_aload_n (n := 7) S dX5_loudest_6 rfl rfl ?_
    refine ks_getr (n := 10) S dX5_loudest_7 rfl fl_X5_9 rfl rfl ?_
    refine ks_iconst (n := 11) S dX5_loudest_10 rfl (by unfold iv; decide) ?_
    refine ks_iaload (n := 12) S dX5_loudest_11 rfl rfl (by omega) ?_
    refine ks_icmp_ge (n := 15) (tgt := 50) S dX5_loudest_12 rfl rfl (fun h12 => ?_) (fun h12 => ?_)
    · skip
      refine ks_iload_n (n := 51) S dX5_loudest_50 rfl rfl ?_
      refine ks_iret S dX5_loudest_51 ?_
      exact rt_e (by rw [hb]; congr 2; omega)
    · skip
      have y1 : σ 39 (3 + 6 * i + 4) = aD (M 39) i 4 := by rw [e39]; rfl
      have y2 : σ 39 (3 + 6 * b + 4) = aD (M 39) b 4 := by rw [e39]; rfl
      refine ks_iload_n (n := 16) S dX5_loudest_15 rfl rfl ?_
      refine ks_if_lt (n := 19) (tgt := 42) S dX5_loudest_16 rfl rfl (fun h16 => ?_) (fun h16 => ?_)
      · skip
        refine ks_iload_n (n := 43) S dX5_loudest_42 rfl rfl ?_
        refine ks_istore_n (n := 44) S dX5_loudest_43 rfl rfl (L' := fun y => [some (kr 38), some (ki y), some (ki i)]) (Nat.le_of_ble_eq_true rfl) (fun _ => rfl) (fun v1_43 hv43 => ?_)
        subst v1_43
        refine ks_iinc (n := 47) S dX5_loudest_44 rfl rfl (by omega) (L' := fun y => [some (kr 38), some (ki _), some (ki y)]) (fun _ => rfl) (fun v2_44 hv44 => ?_)
        subst v2_44
        refine ks_goto (n := 5) S dX5_loudest_47 rfl ?_
        refine ih _ (by omega) ⟨by omega, ?_⟩
        rw [m_am_s i0, ← hb]
        first | (rw [if_pos (Or.inl (by omega))]; done) | (rw [if_pos (Or.inr (by omega))]; done) | (rw [if_neg (by omega)]; done)
      · skip
        refine ks_aload_n (n := 20) S dX5_loudest_19 rfl rfl ?_
        refine ks_getr (n := 23) S dX5_loudest_20 rfl fl_X5_9 rfl rfl ?_
        refine ks_iload_n (n := 24) S dX5_loudest_23 rfl rfl ?_
        refine ks_iconst (n := 25) S dX5_loudest_24 rfl (by unfold iv; decide) ?_
        refine kf_s2i (n := 28) S dX5_loudest_25 rfl ml_X5_48 ym_X5_ofD (ev_X5_ofD (by omega) (by omega)) (by decide) (Nat.le_of_ble_eq_true rfl) ?_
        refine ks_iaload (n := 29) S dX5_loudest_28 rfl rfl (by omega) ?_
        refine ks_aload_n (n := 30) S dX5_loudest_29 rfl rfl ?_
        refine ks_getr (n := 33) S dX5_loudest_30 rfl fl_X5_9 rfl rfl ?_
        refine ks_iload_n (n := 34) S dX5_loudest_33 rfl rfl ?_
        refine ks_iconst (n := 35) S dX5_loudest_34 rfl (by unfold iv; decide) ?_
        refine kf_s2i (n := 38) S dX5_loudest_35 rfl ml_X5_48 ym_X5_ofD (ev_X5_ofD (by omega) (by omega)) (by decide) (Nat.le_of_ble_eq_true rfl) ?_
        refine ks_iaload (n := 39) S dX5_loudest_38 rfl rfl (by omega) ?_
        refine ks_icmp_le (n := 42) (tgt := 44) S dX5_loudest_39 rfl rfl (fun h39 => ?_) (fun h39 => ?_)
        · skip
          refine ks_iinc (n := 47) S dX5_loudest_44 rfl rfl (by omega) (L' := fun y => [some (kr 38), some (ki b), some (ki y)]) (fun _ => rfl) (fun v2_44 hv44 => ?_)
          subst v2_44
          refine ks_goto (n := 5) S dX5_loudest_47 rfl ?_
          refine ih _ (by omega) ⟨by omega, ?_⟩
          rw [m_am_s i0, ← hb]
          first | (rw [if_pos (Or.inl (by omega))]; done) | (rw [if_pos (Or.inr (by omega))]; done) | (rw [if_neg (by omega)]; done)
        · skip
          refine ks_iload_n (n := 43) S dX5_loudest_42 rfl rfl ?_
          refine ks_istore_n (n := 44) S dX5_loudest_43 rfl rfl (L' := fun y => [some (kr 38), some (ki y), some (ki i)]) (Nat.le_of_ble_eq_true rfl) (fun _ => rfl) (fun v1_43 hv43 => ?_)
          subst v1_43
          refine ks_iinc (n := 47) S dX5_loudest_44 rfl rfl (by omega) (L' := fun y => [some (kr 38), some (ki _), some (ki y)]) (fun _ => rfl) (fun v2_44 hv44 => ?_)
          subst v2_44
          refine ks_goto (n := 5) S dX5_loudest_47 rfl ?_
          refine ih _ (by omega) ⟨by omega, ?_⟩
          rw [m_am_s i0, ← hb]
          first | (rw [if_pos (Or.inl (by omega))]; done) | (rw [if_pos (Or.inr (by omega))]; done) | (rw [if_neg (by omega)]; done)
  refine ks_bipush (n := 2) S dX5_loudest_0 rfl (by unfold iv; decide) ?_
  refine ks_istore_n (n := 3) S dX5_loudest_2 rfl rfl (L' := fun y => [some (kr 38), some (ki y), none]) (Nat.le_of_ble_eq_true rfl) (fun _ => rfl) (fun v1_2 hv2 => ?_)
  subst v1_2
  refine ks_iconst (n := 4) S dX5_loudest_3 rfl (by unfold iv; decide) ?_
  refine ks_istore_n (n := 5) S dX5_loudest_4 rfl rfl (L' := fun y => [some (kr 38), some (ki _), some (ki y)]) (Nat.le_of_ble_eq_true rfl) (fun _ => rfl) (fun v2_4 hv4 => ?_)
  subst v2_4
  exact lp 0 (-9) (by omega) ⟨by omega, rfl⟩
theorem ev_X4_worst (hM : OkM M) (hC : RC σ M) : Ev l yX4_worst cX4_worst 4 (some .int) 0 0 [kr 0] σ (Rt (some (ki (m_am (fun d => aP (M 39) d 2) (M 39 1).toNat))) σ) := by
  have R := hC.1
  have ok := hM.1
  have n9 := ok.1
  have n6 := ok.2.1
  have s0 : σ 1 7 = M 39 1 := R.2.1
  have fb : ∀ d, 0 ≤ d → d < (M 39 1) → 0 ≤ (fun d => aP (M 39) d 2) d := fun d h0 h1 => (ok.2.2.2.2 d h0 h1).2.2.1
  refine ev_intro ym_X4_worst.1 (Nat.le_of_ble_eq_true rfl) (fun hv hσ K S => ?_)
  have hv := hv
  show K 0 [some (kr 0), none, none, none] [] σ
  refine kq_use (kq_for (α := Int × Int) (M 39 1) (fun i s => 0 ≤ i ∧ s.1 = m_am (fun d => aP (M 39) d 2) i.toNat ∧ s.2 = (if s.1 < 0 then -1 else (fun d => aP (M 39) d 2) s.1)) (fun i s => K 7 [some (kr 0), some (ki s.1), some (ki s.2), some (ki i)] [] σ) ?_) (fun lp => ?_)
  · intro i s hi inv ih
    obtain ⟨b, t⟩ := s
    obtain ⟨i0, hb, ht⟩ := inv
    simp only at hb ht ⊢
    have hbb := m_am_b (fun d => aP (M 39) d 2) i.toNat
    rw [← hb] at hbb
    refine ks_iload_n (n := 8) S dX4_worst_7 rfl rfl ?_
    refine ks_aload_n (n := 9) S dX4_worst_8 rfl rfl ?_
    refine ks_getr (n := 12) S dX4_worst_9 rfl fl_X4_10 rfl rfl ?_
    refine ks_getI (n := 15) (fi := 7) S dX4_worst_12 rfl fl_X4_226 kq_H1.o rfl rfl ?_
    refine ks_icmp_ge (n := 18) (tgt := 49) S dX4_worst_15 rfl rfl (fun h15 => ?_) (fun h15 => ?_)
    · skip
      refine ks_iload_n (n := 50) S dX4_worst_49 rfl rfl ?_
      refine ks_iret S dX4_worst_50 ?_
      exact rt_e (by rw [hb]; congr 2; omega)
    · skip
      have q0 : 0 ≤ aP (M 39) i 2 := fb i i0 (by omega)
      have q1 : σ (1 + 9) i = aP (M 39) i 2 := (R.2.2.2.2 i i0 (by omega)).2.2
      refine ks_aload_n (n := 19) S dX4_worst_18 rfl rfl ?_
      refine ks_getr (n := 22) S dX4_worst_19 rfl fl_X4_10 rfl rfl ?_
      refine ks_getr (n := 25) S dX4_worst_22 rfl fl_X4_108 kq_H1.o rfl ?_
      refine ks_iload_n (n := 26) S dX4_worst_25 rfl rfl ?_
      refine ks_iaload (n := 27) S dX4_worst_26 rfl kq_H1.a9 (by omega) ?_
      refine ks_iload_n (n := 28) S dX4_worst_27 rfl rfl ?_
      refine ks_icmp_le (n := 31) (tgt := 43) S dX4_worst_28 rfl rfl (fun h28 => ?_) (fun h28 => ?_)
      · skip
        refine ks_iinc (n := 46) S dX4_worst_43 rfl rfl (by omega) (L' := fun y => [some (kr 0), some (ki b), some (ki t), some (ki y)]) (fun _ => rfl) (fun v3_43 hv43 => ?_)
        subst v3_43
        refine ks_goto (n := 7) S dX4_worst_46 rfl ?_
        first | refine ih (i, σ (1 + 9) i) (by omega) ⟨by omega, ?_, ?_⟩ | refine ih (b, t) (by omega) ⟨by omega, ?_, ?_⟩
        · show _ = m_am (fun d => aP (M 39) d 2) (i + 1).toNat
          rw [m_am_s i0, ← hb]
          by_cases hn : b < 0
          · rw [if_pos hn] at ht
            first | (exfalso; omega) | (rw [if_pos (Or.inl hn)])
          · rw [if_neg hn] at ht
            first | (rw [if_pos (Or.inr (by omega))]) | (rw [if_neg (by omega)])
        · dsimp only
          first | exact ht | (rw [if_neg (by omega)]; done) | (rw [if_neg (by omega)]; omega)
      · skip
        refine ks_aload_n (n := 32) S dX4_worst_31 rfl rfl ?_
        refine ks_getr (n := 35) S dX4_worst_32 rfl fl_X4_10 rfl rfl ?_
        refine ks_getr (n := 38) S dX4_worst_35 rfl fl_X4_108 kq_H1.o rfl ?_
        refine ks_iload_n (n := 39) S dX4_worst_38 rfl rfl ?_
        refine ks_iaload (n := 40) S dX4_worst_39 rfl kq_H1.a9 (by omega) ?_
        refine ks_istore_n (n := 41) S dX4_worst_40 rfl rfl (L' := fun y => [some (kr 0), some (ki b), some (ki y), some (ki i)]) (Nat.le_of_ble_eq_true rfl) (fun _ => rfl) (fun v2_40 hv40 => ?_)
        subst v2_40
        refine ks_iload_n (n := 42) S dX4_worst_41 rfl rfl ?_
        refine ks_istore_n (n := 43) S dX4_worst_42 rfl rfl (L' := fun y => [some (kr 0), some (ki y), some (ki _), some (ki i)]) (Nat.le_of_ble_eq_true rfl) (fun _ => rfl) (fun v1_42 hv42 => ?_)
        subst v1_42
        refine ks_iinc (n := 46) S dX4_worst_43 rfl rfl (by omega) (L' := fun y => [some (kr 0), some (ki _), some (ki _), some (ki y)]) (fun _ => rfl) (fun v3_43 hv43 => ?_)
        subst v3_43
        refine ks_goto (n := 7) S dX4_worst_46 rfl ?_
        first | refine ih (i, σ (1 + 9) i) (by omega) ⟨by omega, ?_, ?_⟩ | refine ih (b, t) (by omega) ⟨by omega, ?_, ?_⟩
        · show _ = m_am (fun d => aP (M 39) d 2) (i + 1).toNat
          rw [m_am_s i0, ← hb]
          by_cases hn : b < 0
          · rw [if_pos hn] at ht
            first | (exfalso; omega) | (rw [if_pos (Or.inl hn)])
          · rw [if_neg hn] at ht
            first | (rw [if_pos (Or.inr (by omega))]) | (rw [if_neg (by omega)])
        · dsimp only
          first | exact ht | (rw [if_neg (by omega)]; done) | (rw [if_neg (by omega)]; omega)
  refine ks_bipush (n := 2) S dX4_worst_0 rfl (by unfold iv; decide) ?_
  refine ks_istore_n (n := 3) S dX4_worst_2 rfl rfl (L' := fun y => [some (kr 0), some (ki y), none, none]) (Nat.le_of_ble_eq_true rfl) (fun _ => rfl) (fun v1_2 hv2 => ?_)
  subst v1_2
  refine ks_iconst (n := 4) S dX4_worst_3 rfl (by unfold iv; decide) ?_
  refine ks_istore_n (n := 5) S dX4_worst_4 rfl rfl (L' := fun y => [some (kr 0), some (ki _), some (ki y), none]) (Nat.le_of_ble_eq_true rfl) (fun _ => rfl) (fun v2_4 hv4 => ?_)
  subst v2_4
  refine ks_iconst (n := 6) S dX4_worst_5 rfl (by unfold iv; decide) ?_
  refine ks_istore_n (n := 7) S dX4_worst_6 rfl rfl (L' := fun y => [some (kr 0), some (ki _), some (ki _), some (ki y)]) (Nat.le_of_ble_eq_true rfl) (fun _ => rfl) (fun v3_6 hv6 => ?_)
  subst v3_6
  exact lp 0 (-9, -1) (by omega) ⟨by omega, rfl, rfl⟩
theorem ev_X5_worst (hM : OkM M) (hR : RR σ M) : Ev l yX5_worst cX5_worst 3 (some .int) 1 21 [kr 38] σ (Rt (some (ki (m_am (fun d => aP (M 39) d 2) (M 39 1).toNat))) σ) := by
  have e39 : σ 39 = M 39 := hR.1
  have ok := hM.1
  have n9 := ok.1
  have n6 := ok.2.1
  have s0 : σ 39 0 = M 39 0 := by rw [e39]
  have s1 : σ 39 1 = M 39 1 := by rw [e39]
  have w1 : True := trivial
  refine ev_intro ym_X5_worst.1 (Nat.le_of_ble_eq_true rfl) (fun hv hσ K S => ?_)
  have hv := hv
  show K 0 [some (kr 38), none, none] [] σ
  refine kq_use (kq_for (α := Int) (M 39 1) (fun i b => 0 ≤ i ∧ b = m_am (fun d => aP (M 39) d 2) i.toNat) (fun i b => K 5 [some (kr 38), some (ki b), some (ki i)] [] σ) ?_) (fun lp => ?_)
  · intro i b hi inv ih
    obtain ⟨i0, hb⟩ := inv
    have hbb := m_am_b (fun d => aP (M 39) d 2) i.toNat
    rw [← hb] at hbb
    refine ks_iload_n (n := 6) S dX5_worst_5 rfl rfl ?_
    refine ks_aload_n (n := 7) S dX5_worst_6 rfl rfl ?_
    refine ks_getr (n := 10) S dX5_worst_7 rfl fl_X5_9 rfl rfl ?_
    refine ks_iconst (n := 11) S dX5_worst_10 rfl (by unfold iv; decide) ?_
    refine ks_iaload (n := 12) S dX5_worst_11 rfl rfl (by omega) ?_
    refine ks_icmp_ge (n := 15) (tgt := 50) S dX5_worst_12 rfl rfl (fun h12 => ?_) (fun h12 => ?_)
    · skip
      refine ks_iload_n (n := 51) S dX5_worst_50 rfl rfl ?_
      refine ks_iret S dX5_worst_51 ?_
      exact rt_e (by rw [hb]; congr 2; omega)
    · skip
      have y1 : σ 39 (57 + 3 * i + 2) = aP (M 39) i 2 := by rw [e39]; rfl
      have y2 : σ 39 (57 + 3 * b + 2) = aP (M 39) b 2 := by rw [e39]; rfl
      refine ks_iload_n (n := 16) S dX5_worst_15 rfl rfl ?_
      refine ks_if_lt (n := 19) (tgt := 42) S dX5_worst_16 rfl rfl (fun h16 => ?_) (fun h16 => ?_)
      · skip
        refine ks_iload_n (n := 43) S dX5_worst_42 rfl rfl ?_
        refine ks_istore_n (n := 44) S dX5_worst_43 rfl rfl (L' := fun y => [some (kr 38), some (ki y), some (ki i)]) (Nat.le_of_ble_eq_true rfl) (fun _ => rfl) (fun v1_43 hv43 => ?_)
        subst v1_43
        refine ks_iinc (n := 47) S dX5_worst_44 rfl rfl (by omega) (L' := fun y => [some (kr 38), some (ki _), some (ki y)]) (fun _ => rfl) (fun v2_44 hv44 => ?_)
        subst v2_44
        refine ks_goto (n := 5) S dX5_worst_47 rfl ?_
        refine ih _ (by omega) ⟨by omega, ?_⟩
        rw [m_am_s i0, ← hb]
        first | (rw [if_pos (Or.inl (by omega))]; done) | (rw [if_pos (Or.inr (by omega))]; done) | (rw [if_neg (by omega)]; done)
      · skip
        refine ks_aload_n (n := 20) S dX5_worst_19 rfl rfl ?_
        refine ks_getr (n := 23) S dX5_worst_20 rfl fl_X5_9 rfl rfl ?_
        refine ks_iload_n (n := 24) S dX5_worst_23 rfl rfl ?_
        refine ks_iconst (n := 25) S dX5_worst_24 rfl (by unfold iv; decide) ?_
        refine kf_s2i (n := 28) S dX5_worst_25 rfl ml_X5_55 ym_X5_ofP (ev_X5_ofP (by omega) (by omega)) (by decide) (Nat.le_of_ble_eq_true rfl) ?_
        refine ks_iaload (n := 29) S dX5_worst_28 rfl rfl (by omega) ?_
        refine ks_aload_n (n := 30) S dX5_worst_29 rfl rfl ?_
        refine ks_getr (n := 33) S dX5_worst_30 rfl fl_X5_9 rfl rfl ?_
        refine ks_iload_n (n := 34) S dX5_worst_33 rfl rfl ?_
        refine ks_iconst (n := 35) S dX5_worst_34 rfl (by unfold iv; decide) ?_
        refine kf_s2i (n := 38) S dX5_worst_35 rfl ml_X5_55 ym_X5_ofP (ev_X5_ofP (by omega) (by omega)) (by decide) (Nat.le_of_ble_eq_true rfl) ?_
        refine ks_iaload (n := 39) S dX5_worst_38 rfl rfl (by omega) ?_
        refine ks_icmp_le (n := 42) (tgt := 44) S dX5_worst_39 rfl rfl (fun h39 => ?_) (fun h39 => ?_)
        · skip
          refine ks_iinc (n := 47) S dX5_worst_44 rfl rfl (by omega) (L' := fun y => [some (kr 38), some (ki b), some (ki y)]) (fun _ => rfl) (fun v2_44 hv44 => ?_)
          subst v2_44
          refine ks_goto (n := 5) S dX5_worst_47 rfl ?_
          refine ih _ (by omega) ⟨by omega, ?_⟩
          rw [m_am_s i0, ← hb]
          first | (rw [if_pos (Or.inl (by omega))]; done) | (rw [if_pos (Or.inr (by omega))]; done) | (rw [if_neg (by omega)]; done)
        · skip
          refine ks_iload_n (n := 43) S dX5_worst_42 rfl rfl ?_
          refine ks_istore_n (n := 44) S dX5_worst_43 rfl rfl (L' := fun y => [some (kr 38), some (ki y), some (ki i)]) (Nat.le_of_ble_eq_true rfl) (fun _ => rfl) (fun v1_43 hv43 => ?_)
          subst v1_43
          refine ks_iinc (n := 47) S dX5_worst_44 rfl rfl (by omega) (L' := fun y => [some (kr 38), some (ki _), some (ki y)]) (fun _ => rfl) (fun v2_44 hv44 => ?_)
          subst v2_44
          refine ks_goto (n := 5) S dX5_worst_47 rfl ?_
          refine ih _ (by omega) ⟨by omega, ?_⟩
          rw [m_am_s i0, ← hb]
          first | (rw [if_pos (Or.inl (by omega))]; done) | (rw [if_pos (Or.inr (by omega))]; done) | (rw [if_neg (by omega)]; done)
  refine ks_bipush (n := 2) S dX5_worst_0 rfl (by unfold iv; decide) ?_
  refine ks_istore_n (n := 3) S dX5_worst_2 rfl rfl (L' := fun y => [some (kr 38), some (ki y), none]) (Nat.le_of_ble_eq_true rfl) (fun _ => rfl) (fun v1_2 hv2 => ?_)
  subst v1_2
  refine ks_iconst (n := 4) S dX5_worst_3 rfl (by unfold iv; decide) ?_
  refine ks_istore_n (n := 5) S dX5_worst_4 rfl rfl (L' := fun y => [some (kr 38), some (ki _), some (ki y)]) (Nat.le_of_ble_eq_true rfl) (fun _ => rfl) (fun v2_4 hv4 => ?_)
  subst v2_4
  exact lp 0 (-9) (by omega) ⟨by omega, rfl⟩
def A_first (M : KS) (w : Int) : Int × KS := if w = 0 then (m_fi (m_pc (M 39)) 61 0, M) else if w = 1 then (m_am (m_gv (M 39)) (M 39 0).toNat, M) else if w = 2 then (m_am (fun d => aD (M 39) d 4) (M 39 0).toNat, M) else (-2, rfM M (-2))
theorem pc_first {w : Int} (hM : OkM M) (hC : RC σ M) : Ev l yX4_first cX4_first 2 (some .int) 5 109 [kr 0, ki w] σ (QC (A_first M w) σ) := by
  have R := hC.1
  have ok := hM.1
  have n9 := ok.1
  have n6 := ok.2.1
  refine ev_intro ym_X4_first.1 (Nat.le_of_ble_eq_true rfl) (fun hv hσ K S => ?_)
  have hv := hv
  show K 0 [some (kr 0), some (ki w)] [] σ
  refine ks_iload_n (n := 1) S dX4_first_0 rfl rfl ?_
  refine ks_table S (tdf := 43) [28, 33, 38] dX4_first_1 (by decide) (by decide) rfl (fun h1 => ?_) (And.intro (fun h1 => ?_) (And.intro (fun h1 => ?_) (And.intro (fun h1 => ?_) trivial)))
  · skip
    refine ks_aload_n (n := 44) S dX4_first_43 rfl rfl ?_
    refine ks_bipush (n := 46) S dX4_first_44 rfl (by unfold iv; decide) ?_
    refine kf_v1i (n := 49) S dX4_first_46 rfl ml_X4_51 ym_X4_refuse (ev_X4_refuse (by omega)) (by decide) rfl (Nat.le_of_ble_eq_true rfl) ?_
    refine ks_iret S dX4_first_49 ?_
    first | exact qc_r hC (by omega) (by unfold A_first; (repeat' split) <;> first | rfl | omega | (congr 1; omega)) | exact qc_a hC (by unfold A_first; (repeat' split) <;> first | rfl | omega | (congr 1; omega))
  · skip
    refine ks_aload_n (n := 29) S dX4_first_28 rfl rfl ?_
    refine kf_v0i (n := 32) S dX4_first_29 rfl ml_X4_149 ym_X4_cold (ev_X4_cold hM hC) (by decide) rfl (Nat.le_of_ble_eq_true rfl) ?_
    refine ks_iret S dX4_first_32 ?_
    first | exact qc_r hC (by omega) (by unfold A_first; (repeat' split) <;> first | rfl | omega | (congr 1; omega)) | exact qc_a hC (by unfold A_first; (repeat' split) <;> first | rfl | omega | (congr 1; omega))
  · skip
    refine ks_aload_n (n := 34) S dX4_first_33 rfl rfl ?_
    refine kf_v0i (n := 37) S dX4_first_34 rfl ml_X4_152 ym_X4_hottest (ev_X4_hottest hM hC) (by decide) rfl (Nat.le_of_ble_eq_true rfl) ?_
    refine ks_iret S dX4_first_37 ?_
    first | exact qc_r hC (by omega) (by unfold A_first; (repeat' split) <;> first | rfl | omega | (congr 1; omega)) | exact qc_a hC (by unfold A_first; (repeat' split) <;> first | rfl | omega | (congr 1; omega))
  · skip
    refine ks_aload_n (n := 39) S dX4_first_38 rfl rfl ?_
    refine kf_v0i (n := 42) S dX4_first_39 rfl ml_X4_155 ym_X4_loudest (ev_X4_loudest hM hC) (by decide) rfl (Nat.le_of_ble_eq_true rfl) ?_
    refine ks_iret S dX4_first_42 ?_
    first | exact qc_r hC (by omega) (by unfold A_first; (repeat' split) <;> first | rfl | omega | (congr 1; omega)) | exact qc_a hC (by unfold A_first; (repeat' split) <;> first | rfl | omega | (congr 1; omega))
theorem pr_first {w : Int} (hM : OkM M) (hR : RR σ M) : Ev l yX5_first cX5_first 2 (some .int) 4 85 [kr 38, ki w] σ (QR (A_first M w) σ) := by
  have e39 : σ 39 = M 39 := hR.1
  have ok : OkR (σ 39) := by rw [e39]; exact hM.1
  have n9 := ok.1
  have n6 := ok.2.1
  refine ev_intro ym_X5_first.1 (Nat.le_of_ble_eq_true rfl) (fun hv hσ K S => ?_)
  have hv := hv
  show K 0 [some (kr 38), some (ki w)] [] σ
  refine ks_iload_n (n := 1) S dX5_first_0 rfl rfl ?_
  refine ks_if_ne (n := 4) (tgt := 11) S dX5_first_1 rfl rfl (fun h1 => ?_) (fun h1 => ?_)
  · skip
    refine ks_iload_n (n := 12) S dX5_first_11 rfl rfl ?_
    refine ks_iconst (n := 13) S dX5_first_12 rfl (by unfold iv; decide) ?_
    refine ks_icmp_ne (n := 16) (tgt := 23) S dX5_first_13 rfl rfl (fun h13 => ?_) (fun h13 => ?_)
    · skip
      refine ks_iload_n (n := 24) S dX5_first_23 rfl rfl ?_
      refine ks_iconst (n := 25) S dX5_first_24 rfl (by unfold iv; decide) ?_
      refine ks_icmp_ne (n := 28) (tgt := 35) S dX5_first_25 rfl rfl (fun h25 => ?_) (fun h25 => ?_)
      · skip
        refine ks_aload_n (n := 36) S dX5_first_35 rfl rfl ?_
        refine ks_bipush (n := 38) S dX5_first_36 rfl (by unfold iv; decide) ?_
        refine kf_v1i (n := 41) S dX5_first_38 rfl ml_X5_38 ym_X5_no (ev_X5_no (by omega)) (by decide) rfl (Nat.le_of_ble_eq_true rfl) ?_
        refine ks_iret S dX5_first_41 ?_
        first | exact qr_t hR (by assumption) (by unfold A_first; rw [if_pos (by omega)]) | exact qr_r hR (by unfold A_first; (repeat' split) <;> first | rfl | omega) | exact qr_a hR (by unfold A_first; (repeat' split) <;> first | rfl | omega)
      · skip
        refine ks_aload_n (n := 29) S dX5_first_28 rfl rfl ?_
        refine kf_v0i (n := 32) S dX5_first_29 rfl ml_X5_162 ym_X5_loudest (ev_X5_loudest hM hR) (by decide) rfl (Nat.le_of_ble_eq_true rfl) ?_
        refine ks_goto (n := 41) S dX5_first_32 rfl ?_
        refine ks_iret S dX5_first_41 ?_
        first | exact qr_t hR (by assumption) (by unfold A_first; rw [if_pos (by omega)]) | exact qr_r hR (by unfold A_first; (repeat' split) <;> first | rfl | omega) | exact qr_a hR (by unfold A_first; (repeat' split) <;> first | rfl | omega)
    · skip
      refine ks_aload_n (n := 17) S dX5_first_16 rfl rfl ?_
      refine kf_v0i (n := 20) S dX5_first_17 rfl ml_X5_159 ym_X5_hottest (ev_X5_hottest hM hR) (by decide) rfl (Nat.le_of_ble_eq_true rfl) ?_
      refine ks_goto (n := 41) S dX5_first_20 rfl ?_
      refine ks_iret S dX5_first_41 ?_
      first | exact qr_t hR (by assumption) (by unfold A_first; rw [if_pos (by omega)]) | exact qr_r hR (by unfold A_first; (repeat' split) <;> first | rfl | omega) | exact qr_a hR (by unfold A_first; (repeat' split) <;> first | rfl | omega)
  · skip
    refine ks_aload_n (n := 5) S dX5_first_4 rfl rfl ?_
    refine ks_v0i (n := 8) S dX5_first_5 rfl ml_X5_156 ym_X5_cold (ev_X5_cold hM hR) (by decide) rfl (Nat.le_of_ble_eq_true rfl) (fun r5 τ5 q5 => ?_)
    obtain ⟨q1, q2⟩ := q5
    cases q1
    refine ks_goto (n := 41) S dX5_first_8 rfl ?_
    refine ks_iret S dX5_first_41 ?_
    first | exact qr_t hR (by assumption) (by unfold A_first; rw [if_pos (by omega)]) | exact qr_r hR (by unfold A_first; (repeat' split) <;> first | rfl | omega) | exact qr_a hR (by unfold A_first; (repeat' split) <;> first | rfl | omega)
def m_pj (M : KS) (i : Int) : Bool := decide (¬ (i < M 39 0 ∧ m_gv (M 39) i = M 44 i))
def A_judge (M : KS) : Int × KS := (m_fi (m_pj M) (M 38 9).toNat 0, kq_up M 38 9 0)
theorem pc_judge (hM : OkM M) (hC : RC σ M) : Ev l yX4_judge cX4_judge 3 (some .int) 3 64 [kr 0] σ (QC (A_judge M) σ) := by
  have R := hC.1
  have ok := hM.1
  have n9 := ok.1
  have s9 : σ 0 7 = M 38 9 := hC.2.2.2.2.2.1
  have m9 := hM.2.2.2.2.2.2.2.1
  refine ev_intro ym_X4_judge.1 (Nat.le_of_ble_eq_true rfl) (fun hv hσ K S => ?_)
  have hv := hv
  show K 0 [some (kr 0), none, none] [] σ
  refine kq_use (kq_for (α := Int) (M 38 9) (fun i b => 0 ≤ i ∧ ((b = -9 ∧ m_fi (m_pj M) (M 38 9).toNat 0 = m_fi (m_pj M) (M 38 9 - i).toNat i) ∨ (0 ≤ b ∧ m_fi (m_pj M) (M 38 9).toNat 0 = b))) (fun i b => K 5 [some (kr 0), some (ki b), some (ki i)] [] σ) ?_) (fun lp => ?_)
  · intro i b hi inv ih
    obtain ⟨i0, hd⟩ := inv
    refine ks_iload_n (n := 6) S dX4_judge_5 rfl rfl ?_
    refine ks_aload_n (n := 7) S dX4_judge_6 rfl rfl ?_
    refine ks_getI (n := 10) (fi := 7) S dX4_judge_7 rfl fl_X4_44 rfl rfl rfl ?_
    refine ks_icmp_ge (n := 13) (tgt := 55) S dX4_judge_10 rfl rfl (fun h10 => ?_) (fun h10 => ?_)
    · skip
      refine ks_aload_n (n := 56) S dX4_judge_55 rfl rfl ?_
      refine ks_iconst (n := 57) S dX4_judge_56 rfl (by unfold iv; decide) ?_
      refine ks_putI (n := 60) (fi := 7) S dX4_judge_57 rfl fw_X4_44 rfl rfl (Or.inl rfl) rfl ?_
      refine ks_iload_n (n := 61) S dX4_judge_60 rfl rfl ?_
      refine ks_iret S dX4_judge_61 ?_
      refine qc_mk (hC.noRow FrT.rf) (fun c hc => funext fun j => kq_up_c (by omega)) ?_
      unfold A_judge
      rcases hd with h | h
      · rw [h.2, h.1, m_fi_0 (by omega)]
      · rw [h.2]
    · skip
      refine ks_iload_n (n := 14) S dX4_judge_13 rfl rfl ?_
      refine ks_bipush (n := 16) S dX4_judge_14 rfl (by unfold iv; decide) ?_
      refine ks_icmp_ne (n := 19) (tgt := 55) S dX4_judge_16 rfl rfl (fun h16 => ?_) (fun h16 => ?_)
      · skip
        refine ks_aload_n (n := 56) S dX4_judge_55 rfl rfl ?_
        refine ks_iconst (n := 57) S dX4_judge_56 rfl (by unfold iv; decide) ?_
        refine ks_putI (n := 60) (fi := 7) S dX4_judge_57 rfl fw_X4_44 rfl rfl (Or.inl rfl) rfl ?_
        refine ks_iload_n (n := 61) S dX4_judge_60 rfl rfl ?_
        refine ks_iret S dX4_judge_61 ?_
        refine qc_mk (hC.noRow FrT.rf) (fun c hc => funext fun j => kq_up_c (by omega)) ?_
        unfold A_judge
        rcases hd with h | h
        · rw [h.2, h.1, m_fi_0 (by omega)]
        · rw [h.2]
      · skip
        have q1 : σ 36 i = M 44 i := hC.2.2.2.2.2.2.1 i i0 (by omega)
        have hd : m_fi (m_pj M) (M 38 9).toNat 0 = m_fi (m_pj M) (M 38 9 - i).toNat i := by rcases hd with h | h; exact h.2; omega
        refine ks_aload_n (n := 20) S dX4_judge_19 rfl rfl ?_
        refine ks_getr (n := 23) S dX4_judge_20 rfl fl_X4_10 rfl rfl ?_
        refine ks_iload_n (n := 24) S dX4_judge_23 rfl rfl ?_
        refine kf_v1z (n := 27) S dX4_judge_24 rfl ml_X4_74 ym_X0_hasDoor (ev_X0_hasDoor kq_H1 R) (by decide) kq_H1.o (Nat.le_of_ble_eq_true rfl) ?_
        refine ks_if_eq (n := 30) (tgt := 47) S dX4_judge_27 rfl rfl (fun h27 => ?_) (fun h27 => ?_)
        · skip
          simp only [bi_eq, bi_ne] at h27
          refine ks_iload_n (n := 48) S dX4_judge_47 rfl rfl ?_
          refine ks_istore_n (n := 49) S dX4_judge_48 rfl rfl (L' := fun y => [some (kr 0), some (ki y), some (ki i)]) (Nat.le_of_ble_eq_true rfl) (fun _ => rfl) (fun v1_48 hv48 => ?_)
          subst v1_48
          refine ks_iinc (n := 52) S dX4_judge_49 rfl rfl (by omega) (L' := fun y => [some (kr 0), some (ki _), some (ki y)]) (fun _ => rfl) (fun v2_49 hv49 => ?_)
          subst v2_49
          refine ks_goto (n := 5) S dX4_judge_52 rfl ?_
          refine ih _ (by omega) ⟨by omega, ?_⟩
          first | exact Or.inr ⟨i0, by rw [hd, m_fi_s (by omega), if_pos (by unfold m_pj; simp only [decide_eq_true_eq]; omega)]⟩ | exact Or.inl ⟨by omega, by rw [hd, m_fi_s (by omega), if_neg (by unfold m_pj; simp only [decide_eq_true_eq]; omega)]⟩
        · skip
          simp only [bi_eq, bi_ne] at h27
          refine ks_aload_n (n := 31) S dX4_judge_30 rfl rfl ?_
          refine ks_getr (n := 34) S dX4_judge_31 rfl fl_X4_10 rfl rfl ?_
          refine ks_iload_n (n := 35) S dX4_judge_34 rfl rfl ?_
          refine kf_v1i (n := 38) S dX4_judge_35 rfl ml_X4_96 ym_X0_given (ev_X0_given kq_H1 R ok (by omega)) (by decide) kq_H1.o (Nat.le_of_ble_eq_true rfl) ?_
          refine ks_aload_n (n := 39) S dX4_judge_38 rfl rfl ?_
          refine ks_getr (n := 42) S dX4_judge_39 rfl fl_X4_40 rfl rfl ?_
          refine ks_iload_n (n := 43) S dX4_judge_42 rfl rfl ?_
          refine ks_iaload (n := 44) S dX4_judge_43 rfl rfl (by omega) ?_
          refine ks_icmp_eq (n := 47) (tgt := 49) S dX4_judge_44 rfl rfl (fun h44 => ?_) (fun h44 => ?_)
          · skip
            refine ks_iinc (n := 52) S dX4_judge_49 rfl rfl (by omega) (L' := fun y => [some (kr 0), some (ki b), some (ki y)]) (fun _ => rfl) (fun v2_49 hv49 => ?_)
            subst v2_49
            refine ks_goto (n := 5) S dX4_judge_52 rfl ?_
            refine ih _ (by omega) ⟨by omega, ?_⟩
            first | exact Or.inr ⟨i0, by rw [hd, m_fi_s (by omega), if_pos (by unfold m_pj; simp only [decide_eq_true_eq]; omega)]⟩ | exact Or.inl ⟨by omega, by rw [hd, m_fi_s (by omega), if_neg (by unfold m_pj; simp only [decide_eq_true_eq]; omega)]⟩
          · skip
            refine ks_iload_n (n := 48) S dX4_judge_47 rfl rfl ?_
            refine ks_istore_n (n := 49) S dX4_judge_48 rfl rfl (L' := fun y => [some (kr 0), some (ki y), some (ki i)]) (Nat.le_of_ble_eq_true rfl) (fun _ => rfl) (fun v1_48 hv48 => ?_)
            subst v1_48
            refine ks_iinc (n := 52) S dX4_judge_49 rfl rfl (by omega) (L' := fun y => [some (kr 0), some (ki _), some (ki y)]) (fun _ => rfl) (fun v2_49 hv49 => ?_)
            subst v2_49
            refine ks_goto (n := 5) S dX4_judge_52 rfl ?_
            refine ih _ (by omega) ⟨by omega, ?_⟩
            first | exact Or.inr ⟨i0, by rw [hd, m_fi_s (by omega), if_pos (by unfold m_pj; simp only [decide_eq_true_eq]; omega)]⟩ | exact Or.inl ⟨by omega, by rw [hd, m_fi_s (by omega), if_neg (by unfold m_pj; simp only [decide_eq_true_eq]; omega)]⟩
  refine ks_bipush (n := 2) S dX4_judge_0 rfl (by unfold iv; decide) ?_
  refine ks_istore_n (n := 3) S dX4_judge_2 rfl rfl (L' := fun y => [some (kr 0), some (ki y), none]) (Nat.le_of_ble_eq_true rfl) (fun _ => rfl) (fun v1_2 hv2 => ?_)
  subst v1_2
  refine ks_iconst (n := 4) S dX4_judge_3 rfl (by unfold iv; decide) ?_
  refine ks_istore_n (n := 5) S dX4_judge_4 rfl rfl (L' := fun y => [some (kr 0), some (ki _), some (ki y)]) (Nat.le_of_ble_eq_true rfl) (fun _ => rfl) (fun v2_4 hv4 => ?_)
  subst v2_4
  exact lp 0 (-9) m9.1 ⟨by omega, Or.inl ⟨rfl, by rw [Int.sub_zero]⟩⟩
theorem pr_judge (hM : OkM M) (hR : RR σ M) : Ev l yX5_judge cX5_judge 3 (some .int) 2 44 [kr 38] σ (QR (A_judge M) σ) := by
  have e39 : σ 39 = M 39 := hR.1
  have ok := hM.1
  have n9 := ok.1
  have s9 : σ 38 9 = M 38 9 := hR.2.2.2.2.1
  have m9 := hM.2.2.2.2.2.2.2.1
  have e44 := hR.2.2.2.2.2.2.1
  have z : ∀ c, c ≠ 38 → kq_up σ 38 9 0 c = σ c := fun c q1 => funext fun j => kq_up_c q1
  have z39 : kq_up σ 38 9 0 39 = M 39 := by rw [z 39 (by decide)]; exact e39
  have z44 : kq_up σ 38 9 0 44 = M 44 := by rw [z 44 (by decide)]; exact e44
  refine ev_intro ym_X5_judge.1 (Nat.le_of_ble_eq_true rfl) (fun hv hσ K S => ?_)
  have hv := hv
  show K 0 [some (kr 38), none, none] [] σ
  obtain ⟨ρ, hρ⟩ : ∃ w, w = kq_up σ 38 9 0 := ⟨_, rfl⟩
  rw [← hρ] at z39 z44
  refine kq_use (kq_for (α := Unit) (M 38 9) (fun i _ => 0 ≤ i ∧ m_fi (m_pj M) (M 38 9).toNat 0 = m_fi (m_pj M) (M 38 9 - i).toNat i) (fun i _ => K 12 [some (kr 38), some (ki (M 38 9)), some (ki i)] [] ρ) ?_) (fun lp => ?_)
  · intro i _ hi inv ih
    obtain ⟨i0, hd⟩ := inv
    have q2 : ρ 44 i = M 44 i := by rw [z44]
    have q3 : ρ 39 0 = M 39 0 := by rw [z39]
    refine ks_iload_n (n := 13) S dX5_judge_12 rfl rfl ?_
    refine ks_iload_n (n := 14) S dX5_judge_13 rfl rfl ?_
    refine ks_icmp_ge (n := 17) (tgt := 50) S dX5_judge_14 rfl rfl (fun h14 => ?_) (fun h14 => ?_)
    · skip
      refine ks_bipush (n := 52) S dX5_judge_50 rfl (by unfold iv; decide) ?_
      refine ks_iret S dX5_judge_52 ?_
      rw [hρ]
      exact qr_mk hR.noRow (fun c hc => funext fun j => kq_up_c (by omega)) (by unfold A_judge; rw [hd, m_fi_0 (by omega)])
    · skip
      refine ks_aload_n (n := 18) S dX5_judge_17 rfl rfl ?_
      refine ks_iload_n (n := 19) S dX5_judge_18 rfl rfl ?_
      refine kf_v1z (n := 22) S dX5_judge_19 rfl ml_X5_120 ym_X5_isDoor (ev_X5_isDoor (by rw [z39]; exact n9)) (by decide) rfl (Nat.le_of_ble_eq_true rfl) ?_
      refine ks_if_eq (n := 25) (tgt := 42) S dX5_judge_22 rfl rfl (fun h22 => ?_) (fun h22 => ?_)
      · skip
        simp only [bi_eq, bi_ne] at h22
        refine ks_iload_n (n := 43) S dX5_judge_42 rfl rfl ?_
        refine ks_iret S dX5_judge_43 ?_
        rw [hρ]
        exact qr_mk hR.noRow (fun c hc => funext fun j => kq_up_c (by omega)) (by unfold A_judge; rw [hd, m_fi_s (by omega), if_pos (by unfold m_pj; simp only [decide_eq_true_eq]; omega)])
      · skip
        simp only [bi_eq, bi_ne] at h22
        have w1 : OkD (ρ 39) i := by rw [z39]; exact ok.2.2.2.1 i i0 (by omega)
        refine ks_aload_n (n := 26) S dX5_judge_25 rfl rfl ?_
        refine ks_getr (n := 29) S dX5_judge_26 rfl fl_X5_9 rfl rfl ?_
        refine ks_iload_n (n := 30) S dX5_judge_29 rfl rfl ?_
        refine kf_s2i (n := 33) S dX5_judge_30 rfl ml_X5_58 ym_X5_gives (ev_X5_gives rfl (by omega) w1.2.1 w1.2.2.2.2.2.1) (by decide) (Nat.le_of_ble_eq_true rfl) ?_
        rw [z39]
        refine ks_aload_n (n := 34) S dX5_judge_33 rfl rfl ?_
        refine ks_getr (n := 37) S dX5_judge_34 rfl fl_X5_25 rfl rfl ?_
        refine ks_iload_n (n := 38) S dX5_judge_37 rfl rfl ?_
        refine ks_iaload (n := 39) S dX5_judge_38 rfl rfl (by omega) ?_
        refine ks_icmp_eq (n := 42) (tgt := 44) S dX5_judge_39 rfl rfl (fun h39 => ?_) (fun h39 => ?_)
        · skip
          refine ks_iinc (n := 47) S dX5_judge_44 rfl rfl (by omega) (L' := fun y => [some (kr 38), some (ki (M 38 9)), some (ki y)]) (fun _ => rfl) (fun v2_44 hv44 => ?_)
          subst v2_44
          refine ks_goto (n := 12) S dX5_judge_47 rfl ?_
          refine ih () (by omega) ⟨by omega, ?_⟩
          rw [hd, m_fi_s (by omega), if_neg (by unfold m_pj; simp only [decide_eq_true_eq]; omega)]
        · skip
          refine ks_iload_n (n := 43) S dX5_judge_42 rfl rfl ?_
          refine ks_iret S dX5_judge_43 ?_
          rw [hρ]
          exact qr_mk hR.noRow (fun c hc => funext fun j => kq_up_c (by omega)) (by unfold A_judge; rw [hd, m_fi_s (by omega), if_pos (by unfold m_pj; simp only [decide_eq_true_eq]; omega)])
  refine ks_aload_n (n := 1) S dX5_judge_0 rfl rfl ?_
  refine ks_getI (n := 4) (fi := 9) S dX5_judge_1 rfl fl_X5_188 rfl rfl rfl ?_
  refine ks_istore_n (n := 5) S dX5_judge_4 rfl rfl (L' := fun y => [some (kr 38), some (ki y), none]) (Nat.le_of_ble_eq_true rfl) (fun _ => rfl) (fun v1_4 hv4 => ?_)
  subst v1_4
  refine ks_aload_n (n := 6) S dX5_judge_5 rfl rfl ?_
  refine ks_iconst (n := 7) S dX5_judge_6 rfl (by unfold iv; decide) ?_
  refine ks_putI (n := 10) (fi := 9) S dX5_judge_7 rfl fw_X5_188 rfl rfl (Or.inl rfl) rfl ?_
  refine ks_iconst (n := 11) S dX5_judge_10 rfl (by unfold iv; decide) ?_
  refine ks_istore_n (n := 12) S dX5_judge_11 rfl rfl (L' := fun y => [some (kr 38), some (ki _), some (ki y)]) (Nat.le_of_ble_eq_true rfl) (fun _ => rfl) (fun v2_11 hv11 => ?_)
  subst v2_11
  rw [s9, ← hρ]
  exact lp 0 () m9.1 ⟨by omega, by rw [Int.sub_zero]⟩
end PUB3

