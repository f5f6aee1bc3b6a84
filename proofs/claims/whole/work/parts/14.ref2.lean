theorem ib_or_0 {x : Int} (h : iv x) : ib_or x 0 = x := by
  unfold ib_or
  rw [show Int32.ofInt 0 = 0 by decide, Int32.or_zero, kn_i h]
section REF2
variable {l : Launch} {σ : KS} {r : Nat}
theorem m_hd_succ {a : RW} {i : Int} (h : 0 ≤ i) : m_hd a (i + 1).toNat = m_to (m_hd a i.toNat) i (aD (m_hd a i.toNat) i 4 - m_cl (m_hd a i.toNat) i) := by
  obtain ⟨n, rfl⟩ := Int.eq_ofNat_of_zero_le h
  rfl
theorem m_hp_succ {a : RW} {i : Int} (h : 0 ≤ i) : m_hp a (i + 1).toNat = ru (m_hp a i.toNat) (57 + 3 * i + 2) (m_held (aP (m_hp a i.toNat) i 2 - 3)) := by
  obtain ⟨n, rfl⟩ := Int.eq_ofNat_of_zero_le h
  rfl
theorem m_hours_succ {a : RW} {i : Int} (h : 0 ≤ i) : m_hours a (i + 1).toNat = m_hour (m_hours a i.toNat) := by
  obtain ⟨n, rfl⟩ := Int.eq_ofNat_of_zero_le h
  rfl
theorem ev_X5_hour (hr : kq_sh[r]? = some (.inl 75)) (ok : OkR (σ r)) (h2 : σ r 2 < 100000) : Ev l yX5_hour cX5_hour 2 none 2 43 [kr r] σ (Rt none (sr σ r (m_hour (σ r)))) := by
  have h9 := ok.1
  have h6 := ok.2.1
  have h0 := ok.2.2.1
  obtain ⟨a, ha⟩ : ∃ z, z = ru (σ r) 2 (σ r 2 + 1) := ⟨_, rfl⟩
  have a0 : a 0 = σ r 0 := by rw [ha]; exact ru_n (by omega)
  have a1 : a 1 = σ r 1 := by rw [ha]; exact ru_n (by omega)
  have aDD : ∀ d w, 0 ≤ d → 0 ≤ w → aD a d w = aD (σ r) d w := fun d w h0 h1 => by rw [ha]; unfold aD; exact ru_n (by omega)
  have aPP : ∀ d w, 0 ≤ d → 0 ≤ w → aP a d w = aP (σ r) d w := fun d w h0 h1 => by rw [ha]; unfold aP; exact ru_n (by omega)
  obtain ⟨X1, X2⟩ := m_hd_at a (σ r 0).toNat (by omega)
  refine ev_intro ym_X5_hour.1 (Nat.le_of_ble_eq_true rfl) (fun hv hσ K S => ?_)
  have hv := hv
  show K 0 [some (kr r), none] [] σ
  refine kq_use (kq_for (α := KS) (σ r 1) (fun i ρ => 0 ≤ i ∧ ρ = sr σ r (m_hp (m_hd a (σ r 0).toNat) i.toNat)) (fun i ρ => K 42 [some (kr r), some (ki i)] [] ρ) ?_) (fun lp2 => ?_)
  · intro i ρ hi inv ih
    obtain ⟨i0, hρ⟩ := inv
    have hρr : ρ r = m_hp (m_hd a (σ r 0).toNat) i.toNat := by rw [hρ, sr_r]
    obtain ⟨Y1, Y2⟩ := m_hp_at (m_hd a (σ r 0).toNat) i.toNat (by omega)
    have r1 : ρ r 1 = σ r 1 := by rw [hρr, Y1 1 (by omega), X1 1 (by omega), a1]
    refine ks_iload_n (n := 43) S dX5_hour_42 rfl rfl ?_
    refine ks_aload_n (n := 44) S dX5_hour_43 rfl rfl ?_
    refine ks_iconst (n := 45) S dX5_hour_44 rfl (by unfold iv; decide) ?_
    refine ks_iaload (n := 46) S dX5_hour_45 rfl hr (by omega) ?_
    refine ks_icmp_ge (n := 49) (tgt := 74) S dX5_hour_46 rfl rfl (fun h46 => ?_) (fun h46 => ?_)
    · skip
      refine ks_vret S dX5_hour_74 ?_
      refine ⟨rfl, ?_⟩
      rw [hρ, show i = σ r 1 by omega, ha]
      rfl
    · skip
      have o3 := (ok.2.2.2.2 i i0 (by omega)).2.2
      have rm : ρ r (57 + 3 * i + 2) = aP (σ r) i 2 := by
        have e := Y2 i 2 i0 (by omega) (by omega) (by omega)
        rw [if_neg (by omega)] at e
        have e2 : aP (m_hd a (σ r 0).toNat) i 2 = aP a i 2 := by unfold aP; exact X1 _ (by omega)
        rw [hρr]; exact e.trans (e2.trans (aPP i 2 i0 (by omega)))
      refine ks_aload_n (n := 50) S dX5_hour_49 rfl rfl ?_
      refine ks_iload_n (n := 51) S dX5_hour_50 rfl rfl ?_
      refine ks_iconst (n := 52) S dX5_hour_51 rfl (by unfold iv; decide) ?_
      refine kf_s2i (n := 55) S dX5_hour_52 rfl ml_X5_55 ym_X5_ofP (ev_X5_ofP (by omega) (by omega)) (by decide) (Nat.le_of_ble_eq_true rfl) ?_
      refine ks_aload_n (n := 56) S dX5_hour_55 rfl rfl ?_
      refine ks_iload_n (n := 57) S dX5_hour_56 rfl rfl ?_
      refine ks_iconst (n := 58) S dX5_hour_57 rfl (by unfold iv; decide) ?_
      refine kf_s2i (n := 61) S dX5_hour_58 rfl ml_X5_55 ym_X5_ofP (ev_X5_ofP (by omega) (by omega)) (by decide) (Nat.le_of_ble_eq_true rfl) ?_
      refine ks_iaload (n := 62) S dX5_hour_61 rfl hr (by omega) ?_
      refine ks_iconst (n := 63) S dX5_hour_62 rfl (by unfold iv; decide) ?_
      refine ks_isub (n := 64) S dX5_hour_63 rfl (by omega) ?_
      refine kf_s1i (n := 67) S dX5_hour_64 rfl ml_X5_52 ym_X5_held (ev_X5_held) (by decide) (Nat.le_of_ble_eq_true rfl) ?_
      refine ks_iastore (n := 68) S dX5_hour_67 rfl hr (by omega) ?_
      refine ks_iinc (n := 71) S dX5_hour_68 rfl rfl (by omega) (L' := fun y => [some (kr r), some (ki y)]) (fun _ => rfl) (fun v1_68 hv68 => ?_)
      subst hv68
      refine ks_goto (n := 42) S dX5_hour_71 rfl ?_
      refine ih _ (by omega) ⟨by omega, ?_⟩
      rw [m_hp_succ i0, kq_up_sr, hρr, hρ, sr_sr]
      rfl
  refine kq_use (kq_for (α := KS) (σ r 0) (fun i ρ => 0 ≤ i ∧ ρ = sr σ r (m_hd a i.toNat)) (fun i ρ => K 9 [some (kr r), some (ki i)] [] ρ) ?_) (fun lp1 => ?_)
  · intro i ρ hi inv ih
    obtain ⟨i0, hρ⟩ := inv
    have hρr : ρ r = m_hd a i.toNat := by rw [hρ, sr_r]
    obtain ⟨Y1, Y2⟩ := m_hd_at a i.toNat (by omega)
    have r1 : ρ r 0 = σ r 0 := by rw [hρr, Y1 0 (by omega), a0]
    refine ks_iload_n (n := 10) S dX5_hour_9 rfl rfl ?_
    refine ks_aload_n (n := 11) S dX5_hour_10 rfl rfl ?_
    refine ks_iconst (n := 12) S dX5_hour_11 rfl (by unfold iv; decide) ?_
    refine ks_iaload (n := 13) S dX5_hour_12 rfl hr (by omega) ?_
    refine ks_icmp_ge (n := 16) (tgt := 40) S dX5_hour_13 rfl rfl (fun h13 => ?_) (fun h13 => ?_)
    · skip
      refine ks_iconst (n := 41) S dX5_hour_40 rfl (by unfold iv; decide) ?_
      refine ks_istore_n (n := 42) S dX5_hour_41 rfl rfl (L' := fun y => [some (kr r), some (ki y)]) (Nat.le_of_ble_eq_true rfl) (fun _ => rfl) (fun v1_41 hv41 => ?_)
      subst hv41
      refine lp2 0 _ h6.1 ⟨by omega, ?_⟩
      rw [hρ, show i = σ r 0 by omega]
      rfl
    · skip
      obtain ⟨o1, o2, o3, o4, o5, o6, o7, o8⟩ := ok.2.2.2.1 i i0 (by omega)
      have rm : ∀ w, 0 ≤ w → w < 6 → aD (ρ r) i w = aD (σ r) i w := fun w w0 w1 => by
        have e := Y2 i w i0 (by omega) w0 w1
        rw [if_neg (by omega)] at e
        rw [hρr, e]; exact aDD i w i0 w0
      have rm4 : ρ r (3 + 6 * i + 4) = aD (σ r) i 4 := rm 4 (by omega) (by omega)
      have hc0 : 0 ≤ m_cl (ρ r) i ∧ m_cl (ρ r) i ≤ 11 := by unfold m_cl; rw [rm 0 (by omega) (by omega), rm 1 (by omega) (by omega)]; exact m_cools_b o2
      refine ks_aload_n (n := 17) S dX5_hour_16 rfl rfl ?_
      refine ks_iload_n (n := 18) S dX5_hour_17 rfl rfl ?_
      refine ks_aload_n (n := 19) S dX5_hour_18 rfl rfl ?_
      refine ks_iload_n (n := 20) S dX5_hour_19 rfl rfl ?_
      refine ks_iconst (n := 21) S dX5_hour_20 rfl (by unfold iv; decide) ?_
      refine kf_s2i (n := 24) S dX5_hour_21 rfl ml_X5_48 ym_X5_ofD (ev_X5_ofD (by omega) (by omega)) (by decide) (Nat.le_of_ble_eq_true rfl) ?_
      refine ks_iaload (n := 25) S dX5_hour_24 rfl hr (by omega) ?_
      refine ks_aload_n (n := 26) S dX5_hour_25 rfl rfl ?_
      refine ks_iload_n (n := 27) S dX5_hour_26 rfl rfl ?_
      refine kf_s2i (n := 30) S dX5_hour_27 rfl ml_X5_76 ym_X5_cools (ev_X5_cools hr (by omega) (by rw [rm 1 (by omega) (by omega)]; exact o2)) (by decide) (Nat.le_of_ble_eq_true rfl) ?_
      refine ks_isub (n := 31) S dX5_hour_30 rfl (by omega) ?_
      refine kf_s3v (n := 34) S dX5_hour_31 rfl ml_X5_79 ym_X5_coolsTo (ev_X5_coolsTo hr (by omega)) (by decide) (Nat.le_of_ble_eq_true rfl) ?_
      refine ks_iinc (n := 37) S dX5_hour_34 rfl rfl (by omega) (L' := fun y => [some (kr r), some (ki y)]) (fun _ => rfl) (fun v1_34 hv34 => ?_)
      subst hv34
      refine ks_goto (n := 9) S dX5_hour_37 rfl ?_
      refine ih _ (by omega) ⟨by omega, ?_⟩
      rw [m_hd_succ i0, ← hρr, hρ, sr_sr, sr_r]
      rfl
  refine ks_aload_n (n := 1) S dX5_hour_0 rfl rfl ?_
  refine ks_iconst (n := 2) S dX5_hour_1 rfl (by unfold iv; decide) ?_
  refine ks_dup2 (n := 3) S dX5_hour_2 rfl rfl rfl ?_
  refine ks_iaload (n := 4) S dX5_hour_3 rfl hr (by omega) ?_
  refine ks_iconst (n := 5) S dX5_hour_4 rfl (by unfold iv; decide) ?_
  refine ks_iadd (n := 6) S dX5_hour_5 rfl (by omega) ?_
  refine ks_iastore (n := 7) S dX5_hour_6 rfl hr (by omega) ?_
  refine ks_iconst (n := 8) S dX5_hour_7 rfl (by unfold iv; decide) ?_
  refine ks_istore_n (n := 9) S dX5_hour_8 rfl rfl (L' := fun y => [some (kr r), some (ki y)]) (Nat.le_of_ble_eq_true rfl) (fun _ => rfl) (fun v1_8 hv8 => ?_)
  subst hv8
  refine lp1 0 _ h9.1 ⟨by omega, ?_⟩
  rw [kq_up_sr, ha]
  rfl
theorem ev_X5_hoursOn {n : Int} (hr : kq_sh[r]? = some (.inl 75)) (ok : OkR (σ r)) (hn : 0 ≤ n ∧ n ≤ 60) (h2 : σ r 2 + n ≤ 100000) : Ev l yX5_hoursOn cX5_hoursOn 3 none 3 64 [kr r, ki n] σ (Rt none (sr σ r (m_hours (σ r) n.toNat))) := by
  refine ev_intro ym_X5_hoursOn.1 (Nat.le_of_ble_eq_true rfl) (fun hv hσ K S => ?_)
  have hv := hv
  show K 0 [some (kr r), some (ki n), none] [] σ
  refine kq_use (kq_for (α := KS) n (fun i ρ => 0 ≤ i ∧ ρ = sr σ r (m_hours (σ r) i.toNat)) (fun i ρ => K 2 [some (kr r), some (ki n), some (ki i)] [] ρ) ?_) (fun lp => ?_)
  · intro i ρ hi inv ih
    obtain ⟨i0, hρ⟩ := inv
    have hρr : ρ r = m_hours (σ r) i.toNat := by rw [hρ, sr_r]
    obtain ⟨P1, P2⟩ := m_hours_pass ok i.toNat (by omega)
    have P3 := P1.2.2.1
    refine ks_iload_n (n := 3) S dX5_hoursOn_2 rfl rfl ?_
    refine ks_iload_n (n := 4) S dX5_hoursOn_3 rfl rfl ?_
    refine ks_icmp_ge (n := 7) (tgt := 17) S dX5_hoursOn_4 rfl rfl (fun h4 => ?_) (fun h4 => ?_)
    · skip
      refine ks_vret S dX5_hoursOn_17 ?_
      refine ⟨rfl, ?_⟩
      rw [hρ, show i = n by omega]
    · skip
      refine ks_aload_n (n := 8) S dX5_hoursOn_7 rfl rfl ?_
      refine kf_s1v (n := 11) S dX5_hoursOn_8 rfl ml_X5_83 ym_X5_hour (ev_X5_hour hr (by rw [hρr]; exact P2) (by rw [hρr, P3]; omega)) (by decide) (Nat.le_of_ble_eq_true rfl) ?_
      refine ks_iinc (n := 14) S dX5_hoursOn_11 rfl rfl (by omega) (L' := fun y => [some (kr r), some (ki n), some (ki y)]) (fun _ => rfl) (fun v2_11 hv11 => ?_)
      subst hv11
      refine ks_goto (n := 2) S dX5_hoursOn_14 rfl ?_
      refine ih _ (by omega) ⟨by omega, ?_⟩
      rw [m_hours_succ i0, hρr, hρ, sr_sr]
  refine ks_iconst (n := 1) S dX5_hoursOn_0 rfl (by unfold iv; decide) ?_
  refine ks_istore_n (n := 2) S dX5_hoursOn_1 rfl rfl (L' := fun y => [some (kr r), some (ki n), some (ki y)]) (Nat.le_of_ble_eq_true rfl) (fun _ => rfl) (fun v2_1 hv1 => ?_)
  subst hv1
  refine lp 0 _ hn.1 ⟨by omega, ?_⟩
  exact sr_self.symm
theorem ev_X5_allHeat (hr : kq_sh[r]? = some (.inl 75)) (ok : OkR (σ r)) : Ev l yX5_allHeat cX5_allHeat 3 (some .int) 1 21 [kr r] σ (Rt (some (ki (m_allH (σ r)))) σ) := by
  have hn := ok.1
  refine ev_intro ym_X5_allHeat.1 (Nat.le_of_ble_eq_true rfl) (fun hv hσ K S => ?_)
  have hv := hv
  show K 0 [some (kr r), none, none] [] σ
  refine kq_use (kq_for (σ r 0) (fun i s => 0 ≤ i ∧ s = m_sum (fun d => aD (σ r) d 4) i.toNat ∧ 0 ≤ s ∧ s ≤ 99 * i) (fun i s => K 4 [some (kr r), some (ki s), some (ki i)] [] σ) ?_) (fun lp => ?_)
  · intro i s hi inv ih
    obtain ⟨i0, hs, hs0, hs1⟩ := inv
    refine ks_iload_n (n := 5) S dX5_allHeat_4 rfl rfl ?_
    refine ks_aload_n (n := 6) S dX5_allHeat_5 rfl rfl ?_
    refine ks_iconst (n := 7) S dX5_allHeat_6 rfl (by unfold iv; decide) ?_
    refine ks_iaload (n := 8) S dX5_allHeat_7 rfl hr (by omega) ?_
    refine ks_icmp_ge (n := 11) (tgt := 27) S dX5_allHeat_8 rfl rfl (fun h8 => ?_) (fun h8 => ?_)
    · skip
      refine ks_iload_n (n := 28) S dX5_allHeat_27 rfl rfl ?_
      refine ks_iret S dX5_allHeat_28 ?_
      exact rt_e (by rw [hs]; unfold m_allH; congr 2; omega)
    · skip
      obtain ⟨o1, o2, o3, o4, o5, o6, o7, o8⟩ := ok.2.2.2.1 i i0 (by omega)
      have e5 : aD (σ r) i 4 = σ r (3 + 6 * i + 4) := rfl
      refine ks_iload_n (n := 12) S dX5_allHeat_11 rfl rfl ?_
      refine ks_aload_n (n := 13) S dX5_allHeat_12 rfl rfl ?_
      refine ks_iload_n (n := 14) S dX5_allHeat_13 rfl rfl ?_
      refine ks_iconst (n := 15) S dX5_allHeat_14 rfl (by unfold iv; decide) ?_
      refine kf_s2i (n := 18) S dX5_allHeat_15 rfl ml_X5_48 ym_X5_ofD (ev_X5_ofD (by omega) (by omega)) (by decide) (Nat.le_of_ble_eq_true rfl) ?_
      refine ks_iaload (n := 19) S dX5_allHeat_18 rfl hr (by omega) ?_
      refine ks_iadd (n := 20) S dX5_allHeat_19 rfl (by omega) ?_
      refine ks_istore_n (n := 21) S dX5_allHeat_20 rfl rfl (L' := fun y => [some (kr r), some (ki y), some (ki i)]) (Nat.le_of_ble_eq_true rfl) (fun _ => rfl) (fun v1_20 hv20 => ?_)
      subst hv20
      refine ks_iinc (n := 24) S dX5_allHeat_21 rfl rfl (by omega) (L' := fun y => [some (kr r), some (ki _), some (ki y)]) (fun _ => rfl) (fun v2_21 hv21 => ?_)
      subst hv21
      refine ks_goto (n := 4) S dX5_allHeat_24 rfl ?_
      refine ih _ (by omega) ⟨by omega, ?_, by omega, by omega⟩
      rw [m_sum_succ i0, ← hs, e5]
  refine ks_iconst (n := 1) S dX5_allHeat_0 rfl (by unfold iv; decide) ?_
  refine ks_istore_n (n := 2) S dX5_allHeat_1 rfl rfl (L' := fun y => [some (kr r), some (ki y), none]) (Nat.le_of_ble_eq_true rfl) (fun _ => rfl) (fun v1_1 hv1 => ?_)
  subst hv1
  refine ks_iconst (n := 3) S dX5_allHeat_2 rfl (by unfold iv; decide) ?_
  refine ks_istore_n (n := 4) S dX5_allHeat_3 rfl rfl (L' := fun y => [some (kr r), some (ki _), some (ki y)]) (Nat.le_of_ble_eq_true rfl) (fun _ => rfl) (fun v2_3 hv3 => ?_)
  subst hv3
  exact lp 0 0 hn.1 ⟨by omega, rfl, by omega, by omega⟩
theorem ev_X5_allMoods (hr : kq_sh[r]? = some (.inl 75)) (ok : OkR (σ r)) : Ev l yX5_allMoods cX5_allMoods 3 (some .int) 1 21 [kr r] σ (Rt (some (ki (m_allM (σ r)))) σ) := by
  have hn := ok.2.1
  refine ev_intro ym_X5_allMoods.1 (Nat.le_of_ble_eq_true rfl) (fun hv hσ K S => ?_)
  have hv := hv
  show K 0 [some (kr r), none, none] [] σ
  refine kq_use (kq_for (σ r 1) (fun i s => 0 ≤ i ∧ s = m_sum (fun d => aP (σ r) d 2) i.toNat ∧ 0 ≤ s ∧ s ≤ 99 * i) (fun i s => K 4 [some (kr r), some (ki s), some (ki i)] [] σ) ?_) (fun lp => ?_)
  · intro i s hi inv ih
    obtain ⟨i0, hs, hs0, hs1⟩ := inv
    refine ks_iload_n (n := 5) S dX5_allMoods_4 rfl rfl ?_
    refine ks_aload_n (n := 6) S dX5_allMoods_5 rfl rfl ?_
    refine ks_iconst (n := 7) S dX5_allMoods_6 rfl (by unfold iv; decide) ?_
    refine ks_iaload (n := 8) S dX5_allMoods_7 rfl hr (by omega) ?_
    refine ks_icmp_ge (n := 11) (tgt := 27) S dX5_allMoods_8 rfl rfl (fun h8 => ?_) (fun h8 => ?_)
    · skip
      refine ks_iload_n (n := 28) S dX5_allMoods_27 rfl rfl ?_
      refine ks_iret S dX5_allMoods_28 ?_
      exact rt_e (by rw [hs]; unfold m_allM; congr 2; omega)
    · skip
      obtain ⟨o1, o2, o3⟩ := ok.2.2.2.2 i i0 (by omega)
      have e5 : aP (σ r) i 2 = σ r (57 + 3 * i + 2) := rfl
      refine ks_iload_n (n := 12) S dX5_allMoods_11 rfl rfl ?_
      refine ks_aload_n (n := 13) S dX5_allMoods_12 rfl rfl ?_
      refine ks_iload_n (n := 14) S dX5_allMoods_13 rfl rfl ?_
      refine ks_iconst (n := 15) S dX5_allMoods_14 rfl (by unfold iv; decide) ?_
      refine kf_s2i (n := 18) S dX5_allMoods_15 rfl ml_X5_55 ym_X5_ofP (ev_X5_ofP (by omega) (by omega)) (by decide) (Nat.le_of_ble_eq_true rfl) ?_
      refine ks_iaload (n := 19) S dX5_allMoods_18 rfl hr (by omega) ?_
      refine ks_iadd (n := 20) S dX5_allMoods_19 rfl (by omega) ?_
      refine ks_istore_n (n := 21) S dX5_allMoods_20 rfl rfl (L' := fun y => [some (kr r), some (ki y), some (ki i)]) (Nat.le_of_ble_eq_true rfl) (fun _ => rfl) (fun v1_20 hv20 => ?_)
      subst hv20
      refine ks_iinc (n := 24) S dX5_allMoods_21 rfl rfl (by omega) (L' := fun y => [some (kr r), some (ki _), some (ki y)]) (fun _ => rfl) (fun v2_21 hv21 => ?_)
      subst hv21
      refine ks_goto (n := 4) S dX5_allMoods_24 rfl ?_
      refine ih _ (by omega) ⟨by omega, ?_, by omega, by omega⟩
      rw [m_sum_succ i0, ← hs, e5]
  refine ks_iconst (n := 1) S dX5_allMoods_0 rfl (by unfold iv; decide) ?_
  refine ks_istore_n (n := 2) S dX5_allMoods_1 rfl rfl (L' := fun y => [some (kr r), some (ki y), none]) (Nat.le_of_ble_eq_true rfl) (fun _ => rfl) (fun v1_1 hv1 => ?_)
  subst hv1
  refine ks_iconst (n := 3) S dX5_allMoods_2 rfl (by unfold iv; decide) ?_
  refine ks_istore_n (n := 4) S dX5_allMoods_3 rfl rfl (L' := fun y => [some (kr r), some (ki _), some (ki y)]) (Nat.le_of_ble_eq_true rfl) (fun _ => rfl) (fun v2_3 hv3 => ?_)
  subst hv3
  exact lp 0 0 hn.1 ⟨by omega, rfl, by omega, by omega⟩
theorem ev_X5_takes {n : Int} (ok : OkR (σ 39)) (z1 : Zr (σ 39)) (z2 : Zr (σ 40)) (hn : 0 ≤ n ∧ n ≤ 60) (h2 : σ 39 2 + n ≤ 100000) : Ev l yX5_takes cX5_takes 2 none 4 86 [kr 38, ki n] σ (Rt none (sr σ 40 (m_hours (σ 39) n.toNat))) := by
  refine ev_intro ym_X5_takes.1 (Nat.le_of_ble_eq_true rfl) (fun hv hσ K S => ?_)
  have hv := hv
  show K 0 [some (kr 38), some (ki n)] [] σ
  refine ks_aload_n (n := 1) S dX5_takes_0 rfl rfl ?_
  refine ks_getr (n := 4) S dX5_takes_1 rfl fl_X5_9 rfl rfl ?_
  refine ks_aload_n (n := 5) S dX5_takes_4 rfl rfl ?_
  refine ks_getr (n := 8) S dX5_takes_5 rfl fl_X5_13 rfl rfl ?_
  refine kf_s2v (n := 11) S dX5_takes_8 rfl ml_X5_137 ym_X5_copies (ev_X5_copies rfl rfl (by decide) z1 z2) (by decide) (Nat.le_of_ble_eq_true rfl) ?_
  refine ks_aload_n (n := 12) S dX5_takes_11 rfl rfl ?_
  refine ks_getr (n := 15) S dX5_takes_12 rfl fl_X5_13 rfl rfl ?_
  refine ks_iload_n (n := 16) S dX5_takes_15 rfl rfl ?_
  refine kf_s2v (n := 19) S dX5_takes_16 rfl ml_X5_130 ym_X5_hoursOn (ev_X5_hoursOn rfl (by rw [sr_r]; exact ok) hn (by rw [sr_r]; exact h2)) (by decide) (Nat.le_of_ble_eq_true rfl) ?_
  refine ks_vret S dX5_takes_19 ?_
  refine ⟨rfl, ?_⟩
  rw [sr_r, sr_sr]
theorem ev_X5_withVoice {w : Int} (ok : OkR (σ 39)) : Ev l yX5_withVoice cX5_withVoice 4 (some .int) 1 21 [kr 38, ki w] σ (Rt (some (ki (m_vo (σ 39) w (σ 39 0).toNat))) σ) := by
  have hn := ok.1
  refine ev_intro ym_X5_withVoice.1 (Nat.le_of_ble_eq_true rfl) (fun hv hσ K S => ?_)
  have hv := hv
  show K 0 [some (kr 38), some (ki w), none, none] [] σ
  refine kq_use (kq_for (σ 39 0) (fun i s => 0 ≤ i ∧ s = m_vo (σ 39) w i.toNat ∧ iv s) (fun i s => K 4 [some (kr 38), some (ki w), some (ki s), some (ki i)] [] σ) ?_) (fun lp => ?_)
  · intro i s hi inv ih
    obtain ⟨i0, hs, hiv⟩ := inv
    refine ks_iload_n (n := 5) S dX5_withVoice_4 rfl rfl ?_
    refine ks_aload_n (n := 6) S dX5_withVoice_5 rfl rfl ?_
    refine ks_getr (n := 9) S dX5_withVoice_6 rfl fl_X5_9 rfl rfl ?_
    refine ks_iconst (n := 10) S dX5_withVoice_9 rfl (by unfold iv; decide) ?_
    refine ks_iaload (n := 11) S dX5_withVoice_10 rfl rfl (by omega) ?_
    refine ks_icmp_ge (n := 14) (tgt := 44) S dX5_withVoice_11 rfl rfl (fun h11 => ?_) (fun h11 => ?_)
    · skip
      refine ks_iload_n (n := 45) S dX5_withVoice_44 rfl rfl ?_
      refine ks_iret S dX5_withVoice_45 ?_
      exact rt_e (by rw [hs]; congr 2; omega)
    · skip
      refine ks_iload_n (n := 15) S dX5_withVoice_14 rfl rfl ?_
      have e5 : aD (σ 39) i 5 = σ 39 (3 + 6 * i + 5) := rfl
      refine ks_aload_n (n := 16) S dX5_withVoice_15 rfl rfl ?_
      refine ks_getr (n := 19) S dX5_withVoice_16 rfl fl_X5_9 rfl rfl ?_
      refine ks_iload_n (n := 20) S dX5_withVoice_19 rfl rfl ?_
      refine ks_iconst (n := 21) S dX5_withVoice_20 rfl (by unfold iv; decide) ?_
      refine kf_s2i (n := 24) S dX5_withVoice_21 rfl ml_X5_48 ym_X5_ofD (ev_X5_ofD (by omega) (by omega)) (by decide) (Nat.le_of_ble_eq_true rfl) ?_
      refine ks_iaload (n := 25) S dX5_withVoice_24 rfl rfl (by omega) ?_
      refine ks_iload_n (n := 26) S dX5_withVoice_25 rfl rfl ?_
      refine ks_icmp_ne (n := 29) (tgt := 35) S dX5_withVoice_26 rfl rfl (fun h26 => ?_) (fun h26 => ?_)
      · skip
        refine ks_iconst (n := 36) S dX5_withVoice_35 rfl (by unfold iv; decide) ?_
        refine ks_ior (n := 37) S dX5_withVoice_36 rfl ?_
        refine ks_istore_n (n := 38) S dX5_withVoice_37 rfl rfl (L' := fun y => [some (kr 38), some (ki w), some (ki y), some (ki i)]) (Nat.le_of_ble_eq_true rfl) (fun _ => rfl) (fun v2_37 hv37 => ?_)
        subst hv37
        refine ks_iinc (n := 41) S dX5_withVoice_38 rfl rfl (by omega) (L' := fun y => [some (kr 38), some (ki w), some (ki _), some (ki y)]) (fun _ => rfl) (fun v3_38 hv38 => ?_)
        subst hv38
        refine ks_goto (n := 4) S dX5_withVoice_41 rfl ?_
        refine ih _ (by omega) ⟨by omega, ?_, iv_to _⟩
        rw [m_vo_succ i0, ← hs]
        first | rw [if_pos (by omega)] | (rw [if_neg (by omega)]; exact ib_or_0 hiv)
      · skip
        refine ks_iconst (n := 30) S dX5_withVoice_29 rfl (by unfold iv; decide) ?_
        refine ks_iload_n (n := 31) S dX5_withVoice_30 rfl rfl ?_
        refine ks_ishl (n := 32) S dX5_withVoice_31 rfl ?_
        refine ks_goto (n := 36) S dX5_withVoice_32 rfl ?_
        refine ks_ior (n := 37) S dX5_withVoice_36 rfl ?_
        refine ks_istore_n (n := 38) S dX5_withVoice_37 rfl rfl (L' := fun y => [some (kr 38), some (ki w), some (ki y), some (ki i)]) (Nat.le_of_ble_eq_true rfl) (fun _ => rfl) (fun v2_37 hv37 => ?_)
        subst hv37
        refine ks_iinc (n := 41) S dX5_withVoice_38 rfl rfl (by omega) (L' := fun y => [some (kr 38), some (ki w), some (ki _), some (ki y)]) (fun _ => rfl) (fun v3_38 hv38 => ?_)
        subst hv38
        refine ks_goto (n := 4) S dX5_withVoice_41 rfl ?_
        refine ih _ (by omega) ⟨by omega, ?_, iv_to _⟩
        rw [m_vo_succ i0, ← hs]
        first | rw [if_pos (by omega)] | (rw [if_neg (by omega)]; exact ib_or_0 hiv)
  refine ks_iconst (n := 1) S dX5_withVoice_0 rfl (by unfold iv; decide) ?_
  refine ks_istore_n (n := 2) S dX5_withVoice_1 rfl rfl (L' := fun y => [some (kr 38), some (ki w), some (ki y), none]) (Nat.le_of_ble_eq_true rfl) (fun _ => rfl) (fun v2_1 hv1 => ?_)
  subst hv1
  refine ks_iconst (n := 3) S dX5_withVoice_2 rfl (by unfold iv; decide) ?_
  refine ks_istore_n (n := 4) S dX5_withVoice_3 rfl rfl (L' := fun y => [some (kr 38), some (ki w), some (ki _), some (ki y)]) (Nat.le_of_ble_eq_true rfl) (fun _ => rfl) (fun v3_3 hv3 => ?_)
  subst hv3
  exact lp 0 0 hn.1 ⟨by omega, rfl, iv_0⟩
end REF2

