section WAYS2
variable {l : Launch} {σ : KS} {a : RW} {c : Nat}
/-- only the prices (cell 35) or the tolls (34) of the class change -/
theorem FrT.c35 {v : Int} {i : Int} : FrT σ (kq_up σ 35 i v) := FrT.rf.up (by omega)
theorem ev_X3_priceFrom {r : Int} (hr : 0 ≤ r ∧ r < 7) : Ev l yX3_priceFrom cX3_priceFrom 2 (some .int) 0 0 [kr 33, ki r] σ (Rt (some (ki (σ 35 r))) σ) := by
  refine ev_intro ym_X3_priceFrom.1 (Nat.le_of_ble_eq_true rfl) (fun hv hσ K S => ?_)
  have hv := hv
  show K 0 [some (kr 33), some (ki r)] [] σ
  refine ks_iload_n (n := 1) S dX3_priceFrom_0 rfl rfl ?_
  refine ks_if_lt (n := 4) (tgt := 10) S dX3_priceFrom_1 rfl rfl (fun h1 => ?_) (fun h1 => ?_)
  · skip
    refine ks_ldc (n := 12) (x := 1000000) S dX3_priceFrom_10 rfl ct_X3_28 (by unfold iv; decide +kernel) ?_
    refine ks_goto (n := 21) S dX3_priceFrom_12 rfl ?_
    refine ks_iret S dX3_priceFrom_21 ?_
    first | exact rt_r | (exfalso; omega)
  · skip
    refine ks_iload_n (n := 5) S dX3_priceFrom_4 rfl rfl ?_
    refine ks_bipush (n := 7) S dX3_priceFrom_5 rfl (by unfold iv; decide) ?_
    refine ks_icmp_lt (n := 10) (tgt := 15) S dX3_priceFrom_7 rfl rfl (fun h7 => ?_) (fun h7 => ?_)
    · skip
      refine ks_aload_n (n := 16) S dX3_priceFrom_15 rfl rfl ?_
      refine ks_getr (n := 19) S dX3_priceFrom_16 rfl fl_X3_15 rfl rfl ?_
      refine ks_iload_n (n := 20) S dX3_priceFrom_19 rfl rfl ?_
      refine ks_iaload (n := 21) S dX3_priceFrom_20 rfl rfl (by omega) ?_
      refine ks_iret S dX3_priceFrom_21 ?_
      first | exact rt_r | (exfalso; omega)
    · skip
      refine ks_ldc (n := 12) (x := 1000000) S dX3_priceFrom_10 rfl ct_X3_28 (by unfold iv; decide +kernel) ?_
      refine ks_goto (n := 21) S dX3_priceFrom_12 rfl ?_
      refine ks_iret S dX3_priceFrom_21 ?_
      first | exact rt_r | (exfalso; omega)
theorem ev_X3_priceThrough {d r : Int} (hd : 0 ≤ d ∧ d < 9) (hr : 0 ≤ r ∧ r < 7) (ht : -1 ≤ σ 34 d ∧ σ 34 d ≤ 108) (hp : 0 ≤ σ 35 r ∧ σ 35 r ≤ 1000000) : Ev l yX3_priceThrough cX3_priceThrough 3 (some .int) 1 21 [kr 33, ki d, ki r] σ (Rt (some (ki (if σ 34 d = -1 then 1000000 else m_mn 1000000 (σ 35 r + 16 * σ 34 d + 1)))) σ) := by
  refine ev_intro ym_X3_priceThrough.1 (Nat.le_of_ble_eq_true rfl) (fun hv hσ K S => ?_)
  have hv := hv
  show K 0 [some (kr 33), some (ki d), some (ki r)] [] σ
  refine ks_iload_n (n := 1) S dX3_priceThrough_0 rfl rfl ?_
  refine ks_if_lt (n := 4) (tgt := 20) S dX3_priceThrough_1 rfl rfl (fun h1 => ?_) (fun h1 => ?_)
  · skip
    refine ks_ldc (n := 22) (x := 1000000) S dX3_priceThrough_20 rfl ct_X3_28 (by unfold iv; decide +kernel) ?_
    refine ks_iret S dX3_priceThrough_22 ?_
    exact rt_e (by unfold m_mn; (repeat' split) <;> omega)
  · skip
    refine ks_iload_n (n := 5) S dX3_priceThrough_4 rfl rfl ?_
    refine ks_bipush (n := 7) S dX3_priceThrough_5 rfl (by unfold iv; decide) ?_
    refine ks_icmp_ge (n := 10) (tgt := 20) S dX3_priceThrough_7 rfl rfl (fun h7 => ?_) (fun h7 => ?_)
    · skip
      refine ks_ldc (n := 22) (x := 1000000) S dX3_priceThrough_20 rfl ct_X3_28 (by unfold iv; decide +kernel) ?_
      refine ks_iret S dX3_priceThrough_22 ?_
      exact rt_e (by unfold m_mn; (repeat' split) <;> omega)
    · skip
      refine ks_aload_n (n := 11) S dX3_priceThrough_10 rfl rfl ?_
      refine ks_getr (n := 14) S dX3_priceThrough_11 rfl fl_X3_9 rfl rfl ?_
      refine ks_iload_n (n := 15) S dX3_priceThrough_14 rfl rfl ?_
      refine ks_iaload (n := 16) S dX3_priceThrough_15 rfl rfl (by omega) ?_
      refine ks_iconst (n := 17) S dX3_priceThrough_16 rfl (by unfold iv; decide) ?_
      refine ks_icmp_ne (n := 20) (tgt := 23) S dX3_priceThrough_17 rfl rfl (fun h17 => ?_) (fun h17 => ?_)
      · skip
        refine ks_ldc (n := 25) (x := 1000000) S dX3_priceThrough_23 rfl ct_X3_28 (by unfold iv; decide +kernel) ?_
        refine ks_aload_n (n := 26) S dX3_priceThrough_25 rfl rfl ?_
        refine ks_iload_n (n := 27) S dX3_priceThrough_26 rfl rfl ?_
        refine kf_v1i (n := 30) S dX3_priceThrough_27 rfl ml_X3_42 ym_X3_priceFrom (ev_X3_priceFrom hr) (by decide) rfl (Nat.le_of_ble_eq_true rfl) ?_
        refine ks_bipush (n := 32) S dX3_priceThrough_30 rfl (by unfold iv; decide) ?_
        refine ks_aload_n (n := 33) S dX3_priceThrough_32 rfl rfl ?_
        refine ks_getr (n := 36) S dX3_priceThrough_33 rfl fl_X3_9 rfl rfl ?_
        refine ks_iload_n (n := 37) S dX3_priceThrough_36 rfl rfl ?_
        refine ks_iaload (n := 38) S dX3_priceThrough_37 rfl rfl (by omega) ?_
        refine ks_imul (n := 39) S dX3_priceThrough_38 rfl (by omega) ?_
        refine ks_iadd (n := 40) S dX3_priceThrough_39 rfl (by omega) ?_
        refine ks_iconst (n := 41) S dX3_priceThrough_40 rfl (by unfold iv; decide) ?_
        refine ks_iadd (n := 42) S dX3_priceThrough_41 rfl (by omega) ?_
        refine ks_mmin (n := 45) S dX3_priceThrough_42 rfl ml_X3_46 (by decide) (Nat.le_of_ble_eq_true rfl) ?_
        refine ks_iret S dX3_priceThrough_45 ?_
        exact rt_e (by unfold m_mn; (repeat' split) <;> omega)
      · skip
        refine ks_ldc (n := 22) (x := 1000000) S dX3_priceThrough_20 rfl ct_X3_28 (by unfold iv; decide +kernel) ?_
        refine ks_iret S dX3_priceThrough_22 ?_
        exact rt_e (by unfold m_mn; (repeat' split) <;> omega)
theorem ev_X3_isCheaper {d x y : Int} (hd : 0 ≤ d ∧ d < 9) (hx : 0 ≤ x ∧ x < 7) (hy : 0 ≤ y ∧ y < 7) (ht : -1 ≤ σ 34 d ∧ σ 34 d ≤ 108) (hp : 0 ≤ σ 35 y ∧ σ 35 y ≤ 1000000) : Ev l yX3_isCheaper cX3_isCheaper 5 (some .boolean) 2 43 [kr 33, ki d, ki x, ki y] σ (Rt (some (ki (bi ((if σ 34 d = -1 then 1000000 else m_mn 1000000 (σ 35 y + 16 * σ 34 d + 1)) < σ 35 x)))) (if (if σ 34 d = -1 then 1000000 else m_mn 1000000 (σ 35 y + 16 * σ 34 d + 1)) < σ 35 x then kq_up σ 35 x (if σ 34 d = -1 then 1000000 else m_mn 1000000 (σ 35 y + 16 * σ 34 d + 1)) else σ)) := by
  generalize hw : (if σ 34 d = -1 then 1000000 else m_mn 1000000 (σ 35 y + 16 * σ 34 d + 1)) = w
  refine ev_intro ym_X3_isCheaper.1 (Nat.le_of_ble_eq_true rfl) (fun hv hσ K S => ?_)
  have hv := hv
  show K 0 [some (kr 33), some (ki d), some (ki x), some (ki y), none] [] σ
  refine ks_aload_n (n := 1) S dX3_isCheaper_0 rfl rfl ?_
  refine ks_iload_n (n := 2) S dX3_isCheaper_1 rfl rfl ?_
  refine ks_iload_n (n := 3) S dX3_isCheaper_2 rfl rfl ?_
  refine kf_v2i (n := 6) S dX3_isCheaper_3 rfl ml_X3_39 ym_X3_priceThrough (ev_X3_priceThrough hd hy ht hp) (by decide) rfl (Nat.le_of_ble_eq_true rfl) ?_
  rw [hw]
  refine ks_istore (n := 8) S dX3_isCheaper_6 rfl (L' := fun yy => [some (kr 33), some (ki d), some (ki x), some (ki y), some (ki yy)]) (Nat.le_of_ble_eq_true rfl) (fun _ => rfl) (fun v4_6 hv6 => ?_)
  subst v4_6
  refine ks_iload_n (n := 9) S dX3_isCheaper_8 rfl rfl ?_
  refine ks_if_lt (n := 12) (tgt := 29) S dX3_isCheaper_9 rfl rfl (fun h9 => ?_) (fun h9 => ?_)
  · skip
    refine ks_iconst (n := 30) S dX3_isCheaper_29 rfl (by unfold iv; decide) ?_
    refine ks_zret S dX3_isCheaper_30 (by first | exact Or.inl rfl | exact Or.inr rfl | exact bi_01) ?_
    first | (exfalso; omega) | (rw [bi_f (by omega), if_neg (by omega)]; exact rt_r)
  · skip
    refine ks_iload_n (n := 13) S dX3_isCheaper_12 rfl rfl ?_
    refine ks_bipush (n := 15) S dX3_isCheaper_13 rfl (by unfold iv; decide) ?_
    refine ks_icmp_ge (n := 18) (tgt := 29) S dX3_isCheaper_15 rfl rfl (fun h15 => ?_) (fun h15 => ?_)
    · skip
      refine ks_iconst (n := 30) S dX3_isCheaper_29 rfl (by unfold iv; decide) ?_
      refine ks_zret S dX3_isCheaper_30 (by first | exact Or.inl rfl | exact Or.inr rfl | exact bi_01) ?_
      first | (exfalso; omega) | (rw [bi_f (by omega), if_neg (by omega)]; exact rt_r)
    · skip
      refine ks_iload (n := 20) S dX3_isCheaper_18 rfl rfl ?_
      refine ks_aload_n (n := 21) S dX3_isCheaper_20 rfl rfl ?_
      refine ks_getr (n := 24) S dX3_isCheaper_21 rfl fl_X3_15 rfl rfl ?_
      refine ks_iload_n (n := 25) S dX3_isCheaper_24 rfl rfl ?_
      refine ks_iaload (n := 26) S dX3_isCheaper_25 rfl rfl (by omega) ?_
      refine ks_icmp_lt (n := 29) (tgt := 31) S dX3_isCheaper_26 rfl rfl (fun h26 => ?_) (fun h26 => ?_)
      · skip
        refine ks_aload_n (n := 32) S dX3_isCheaper_31 rfl rfl ?_
        refine ks_getr (n := 35) S dX3_isCheaper_32 rfl fl_X3_15 rfl rfl ?_
        refine ks_iload_n (n := 36) S dX3_isCheaper_35 rfl rfl ?_
        refine ks_iload (n := 38) S dX3_isCheaper_36 rfl rfl ?_
        refine ks_iastore (n := 39) S dX3_isCheaper_38 rfl rfl (by omega) ?_
        refine ks_iconst (n := 40) S dX3_isCheaper_39 rfl (by unfold iv; decide) ?_
        refine ks_zret S dX3_isCheaper_40 (by first | exact Or.inl rfl | exact Or.inr rfl | exact bi_01) ?_
        rw [bi_t (by omega), if_pos (by omega)]
        exact rt_r
      · skip
        refine ks_iconst (n := 30) S dX3_isCheaper_29 rfl (by unfold iv; decide) ?_
        refine ks_zret S dX3_isCheaper_30 (by first | exact Or.inl rfl | exact Or.inr rfl | exact bi_01) ?_
        first | (exfalso; omega) | (rw [bi_f (by omega), if_neg (by omega)]; exact rt_r)
theorem ev_X3_givenFrom {r : Int} (hr : 0 ≤ r ∧ r < 7) (hp : 0 ≤ σ 35 r) : Ev l yX3_givenFrom cX3_givenFrom 2 (some .int) 1 21 [kr 33, ki r] σ (Rt (some (ki (if 1000000 ≤ σ 35 r then -9 else σ 35 r / 16))) σ) := by
  refine ev_intro ym_X3_givenFrom.1 (Nat.le_of_ble_eq_true rfl) (fun hv hσ K S => ?_)
  have hv := hv
  show K 0 [some (kr 33), some (ki r)] [] σ
  refine ks_aload_n (n := 1) S dX3_givenFrom_0 rfl rfl ?_
  refine ks_iload_n (n := 2) S dX3_givenFrom_1 rfl rfl ?_
  refine kf_v1i (n := 5) S dX3_givenFrom_2 rfl ml_X3_42 ym_X3_priceFrom (ev_X3_priceFrom hr) (by decide) rfl (Nat.le_of_ble_eq_true rfl) ?_
  refine ks_ldc (n := 7) (x := 1000000) S dX3_givenFrom_5 rfl ct_X3_28 (by unfold iv; decide +kernel) ?_
  refine ks_icmp_lt (n := 10) (tgt := 15) S dX3_givenFrom_7 rfl rfl (fun h7 => ?_) (fun h7 => ?_)
  · skip
    refine ks_aload_n (n := 16) S dX3_givenFrom_15 rfl rfl ?_
    refine ks_iload_n (n := 17) S dX3_givenFrom_16 rfl rfl ?_
    refine kf_v1i (n := 20) S dX3_givenFrom_17 rfl ml_X3_42 ym_X3_priceFrom (ev_X3_priceFrom hr) (by decide) rfl (Nat.le_of_ble_eq_true rfl) ?_
    refine ks_bipush (n := 22) S dX3_givenFrom_20 rfl (by unfold iv; decide) ?_
    refine ks_idiv (n := 23) S dX3_givenFrom_22 rfl (by omega) ?_
    refine ks_iret S dX3_givenFrom_23 ?_
    first | exact rt_e (by rw [if_pos (by omega)]) | exact rt_e (by rw [if_neg (by omega)])
  · skip
    refine ks_bipush (n := 12) S dX3_givenFrom_10 rfl (by unfold iv; decide) ?_
    refine ks_goto (n := 23) S dX3_givenFrom_12 rfl ?_
    refine ks_iret S dX3_givenFrom_23 ?_
    first | exact rt_e (by rw [if_pos (by omega)]) | exact rt_e (by rw [if_neg (by omega)])
theorem ev_X3_doorsFrom {r : Int} (hr : 0 ≤ r ∧ r < 7) (hp : 0 ≤ σ 35 r) : Ev l yX3_doorsFrom cX3_doorsFrom 2 (some .int) 1 21 [kr 33, ki r] σ (Rt (some (ki (if 1000000 ≤ σ 35 r then -9 else σ 35 r % 16))) σ) := by
  refine ev_intro ym_X3_doorsFrom.1 (Nat.le_of_ble_eq_true rfl) (fun hv hσ K S => ?_)
  have hv := hv
  show K 0 [some (kr 33), some (ki r)] [] σ
  refine ks_aload_n (n := 1) S dX3_doorsFrom_0 rfl rfl ?_
  refine ks_iload_n (n := 2) S dX3_doorsFrom_1 rfl rfl ?_
  refine kf_v1i (n := 5) S dX3_doorsFrom_2 rfl ml_X3_42 ym_X3_priceFrom (ev_X3_priceFrom hr) (by decide) rfl (Nat.le_of_ble_eq_true rfl) ?_
  refine ks_ldc (n := 7) (x := 1000000) S dX3_doorsFrom_5 rfl ct_X3_28 (by unfold iv; decide +kernel) ?_
  refine ks_icmp_lt (n := 10) (tgt := 15) S dX3_doorsFrom_7 rfl rfl (fun h7 => ?_) (fun h7 => ?_)
  · skip
    refine ks_aload_n (n := 16) S dX3_doorsFrom_15 rfl rfl ?_
    refine ks_iload_n (n := 17) S dX3_doorsFrom_16 rfl rfl ?_
    refine kf_v1i (n := 20) S dX3_doorsFrom_17 rfl ml_X3_42 ym_X3_priceFrom (ev_X3_priceFrom hr) (by decide) rfl (Nat.le_of_ble_eq_true rfl) ?_
    refine ks_bipush (n := 22) S dX3_doorsFrom_20 rfl (by unfold iv; decide) ?_
    refine ks_irem (n := 23) S dX3_doorsFrom_22 rfl (by omega) ?_
    refine ks_iret S dX3_doorsFrom_23 ?_
    first | exact rt_e (by rw [if_pos (by omega)]) | exact rt_e (by rw [if_neg (by omega)])
  · skip
    refine ks_bipush (n := 12) S dX3_doorsFrom_10 rfl (by unfold iv; decide) ?_
    refine ks_goto (n := 23) S dX3_doorsFrom_12 rfl ?_
    refine ks_iret S dX3_doorsFrom_23 ?_
    first | exact rt_e (by rw [if_pos (by omega)]) | exact rt_e (by rw [if_neg (by omega)])
theorem ev_X3_setToll {d v : Int} (hd : 0 ≤ d ∧ d < 9) : Ev l yX3_setToll cX3_setToll 3 none 0 0 [kr 33, ki d, ki v] σ (Rt none (kq_up σ 34 d v)) := by
  refine ev_intro ym_X3_setToll.1 (Nat.le_of_ble_eq_true rfl) (fun hv hσ K S => ?_)
  have hv := hv
  show K 0 [some (kr 33), some (ki d), some (ki v)] [] σ
  refine ks_iload_n (n := 1) S dX3_setToll_0 rfl rfl ?_
  refine ks_if_lt (n := 4) (tgt := 17) S dX3_setToll_1 rfl rfl (fun h1 => ?_) (fun h1 => ?_)
  · skip
    refine ks_vret S dX3_setToll_17 ?_
    first | exact rt_r | (exfalso; omega)
  · skip
    refine ks_iload_n (n := 5) S dX3_setToll_4 rfl rfl ?_
    refine ks_bipush (n := 7) S dX3_setToll_5 rfl (by unfold iv; decide) ?_
    refine ks_icmp_ge (n := 10) (tgt := 17) S dX3_setToll_7 rfl rfl (fun h7 => ?_) (fun h7 => ?_)
    · skip
      refine ks_vret S dX3_setToll_17 ?_
      first | exact rt_r | (exfalso; omega)
    · skip
      refine ks_aload_n (n := 11) S dX3_setToll_10 rfl rfl ?_
      refine ks_getr (n := 14) S dX3_setToll_11 rfl fl_X3_9 rfl rfl ?_
      refine ks_iload_n (n := 15) S dX3_setToll_14 rfl rfl ?_
      refine ks_iload_n (n := 16) S dX3_setToll_15 rfl rfl ?_
      refine ks_iastore (n := 17) S dX3_setToll_16 rfl rfl (by omega) ?_
      refine ks_vret S dX3_setToll_17 ?_
      first | exact rt_r | (exfalso; omega)
theorem ev_X3_tollNothing : Ev l yX3_tollNothing cX3_tollNothing 2 none 0 0 [kr 33] σ (fun r τ => r = none ∧ (∀ e, e ≠ 34 → τ e = σ e) ∧ ∀ d, 0 ≤ d → d < 9 → τ 34 d = 0) := by
  refine ev_intro ym_X3_tollNothing.1 (Nat.le_of_ble_eq_true rfl) (fun hv hσ K S => ?_)
  have hv := hv
  show K 0 [some (kr 33), none] [] σ
  refine kq_use (kq_for (α := KS) 9 (fun i τ => 0 ≤ i ∧ (∀ e, e ≠ 34 → τ e = σ e) ∧ ∀ d, 0 ≤ d → d < i → τ 34 d = 0) (fun i τ => K 2 [some (kr 33), some (ki i)] [] τ) ?_) (fun lp => ?_)
  · intro i τ hi inv ih
    obtain ⟨i0, F, hz⟩ := inv
    refine ks_iload_n (n := 3) S dX3_tollNothing_2 rfl rfl ?_
    refine ks_bipush (n := 5) S dX3_tollNothing_3 rfl (by unfold iv; decide) ?_
    refine ks_icmp_ge (n := 8) (tgt := 21) S dX3_tollNothing_5 rfl rfl (fun h5 => ?_) (fun h5 => ?_)
    · skip
      refine ks_vret S dX3_tollNothing_21 ?_
      exact ⟨rfl, F, fun d d0 d1 => hz d d0 (by omega)⟩
    · skip
      refine ks_aload_n (n := 9) S dX3_tollNothing_8 rfl rfl ?_
      refine ks_getr (n := 12) S dX3_tollNothing_9 rfl fl_X3_9 rfl rfl ?_
      refine ks_iload_n (n := 13) S dX3_tollNothing_12 rfl rfl ?_
      refine ks_iconst (n := 14) S dX3_tollNothing_13 rfl (by unfold iv; decide) ?_
      refine ks_iastore (n := 15) S dX3_tollNothing_14 rfl rfl (by omega) ?_
      refine ks_iinc (n := 18) S dX3_tollNothing_15 rfl rfl (by omega) (L' := fun yy => [some (kr 33), some (ki yy)]) (fun _ => rfl) (fun v1_15 hv15 => ?_)
      subst v1_15
      refine ks_goto (n := 2) S dX3_tollNothing_18 rfl ?_
      refine ih _ (by omega) ⟨by omega, fun e he => ?_, fun d d0 d1 => ?_⟩
      · rw [← F e he]; funext j; exact kq_up_c he
      · rw [kq_up_of]; split
        · rfl
        · exact hz d d0 (by omega)
  refine ks_iconst (n := 1) S dX3_tollNothing_0 rfl (by unfold iv; decide) ?_
  refine ks_istore_n (n := 2) S dX3_tollNothing_1 rfl rfl (L' := fun yy => [some (kr 33), some (ki yy)]) (Nat.le_of_ble_eq_true rfl) (fun _ => rfl) (fun v1_1 hv1 => ?_)
  obtain rfl : v1_1 = 0 := by omega
  exact lp 0 σ (by omega) ⟨by omega, fun _ _ => rfl, fun d d0 d1 => by omega⟩
/-- what a door gives n hours on -/
def m_ga (a : RW) (n d : Int) : Int := m_gives (aD a d 0) (aD a d 1) (m_mx 0 (aD a d 4 - n * m_cl a d))
theorem m_ga_b {n d : Int} (ok : OkR a) (hn : 0 ≤ n) (hd : 0 ≤ d ∧ d < a 0) : 0 ≤ m_ga a n d ∧ m_ga a n d ≤ 108 := by
  obtain ⟨o1, o2, o3, o4, o5, o6, o7, o8⟩ := ok.2.2.2.1 d hd.1 hd.2
  have hc : 0 ≤ n * m_cl a d := Int.mul_nonneg hn (m_cools_b (k := aD a d 0) o2).1
  exact m_gives_b o2 (by unfold m_mx; split <;> omega)
theorem ev_X3_tollAfter {n : Int} (hH : kq_H c) (hR : RepH σ c a) (ok : OkR a) (hn : 0 ≤ n ∧ n ≤ 60) : Ev l yX3_tollAfter cX3_tollAfter 4 none 3 67 [kr 33, kr c, ki n] σ (fun r τ => r = none ∧ (∀ e, e ≠ 34 → τ e = σ e) ∧ ∀ d, 0 ≤ d → d < a 0 → τ 34 d = m_ga a n d) := by
  have n9 := ok.1
  have hc := kq_Hr hH
  refine ev_intro ym_X3_tollAfter.1 (Nat.le_of_ble_eq_true rfl) (fun hv hσ K S => ?_)
  have hv := hv
  show K 0 [some (kr 33), some (kr c), some (ki n), none] [] σ
  refine kq_use (kq_for (α := KS) (a 0) (fun i τ => 0 ≤ i ∧ (∀ e, e ≠ 34 → τ e = σ e) ∧ ∀ d, 0 ≤ d → d < i → τ 34 d = m_ga a n d) (fun i τ => K 2 [some (kr 33), some (kr c), some (ki n), some (ki i)] [] τ) ?_) (fun lp => ?_)
  · intro i τ hi inv ih
    obtain ⟨i0, F, hz⟩ := inv
    have R2 : RepH τ c a := hR.cells (fun d h1 h2 => F d (by omega))
    have s0 : τ c 0 = a 0 := R2.1
    refine ks_iload_n (n := 3) S dX3_tollAfter_2 rfl rfl ?_
    refine ks_aload_n (n := 4) S dX3_tollAfter_3 rfl rfl ?_
    refine ks_getI (n := 7) (fi := 0) S dX3_tollAfter_4 rfl fl_X3_18 hH.o rfl rfl ?_
    refine ks_icmp_ge (n := 10) (tgt := 28) S dX3_tollAfter_7 rfl rfl (fun h7 => ?_) (fun h7 => ?_)
    · skip
      refine ks_vret S dX3_tollAfter_28 ?_
      exact ⟨rfl, F, fun d d0 d1 => hz d d0 (by omega)⟩
    · skip
      refine ks_aload_n (n := 11) S dX3_tollAfter_10 rfl rfl ?_
      refine ks_getr (n := 14) S dX3_tollAfter_11 rfl fl_X3_9 rfl rfl ?_
      refine ks_iload_n (n := 15) S dX3_tollAfter_14 rfl rfl ?_
      refine ks_aload_n (n := 16) S dX3_tollAfter_15 rfl rfl ?_
      refine ks_iload_n (n := 17) S dX3_tollAfter_16 rfl rfl ?_
      refine ks_iload_n (n := 18) S dX3_tollAfter_17 rfl rfl ?_
      refine kf_v2i (n := 21) S dX3_tollAfter_18 rfl ml_X3_24 ym_X0_givenAfter (ev_X0_givenAfter hH R2 ok (by omega) hn) (by decide) hH.o (Nat.le_of_ble_eq_true rfl) ?_
      refine ks_iastore (n := 22) S dX3_tollAfter_21 rfl rfl (by omega) ?_
      refine ks_iinc (n := 25) S dX3_tollAfter_22 rfl rfl (by omega) (L' := fun yy => [some (kr 33), some (kr c), some (ki n), some (ki yy)]) (fun _ => rfl) (fun v3_22 hv22 => ?_)
      subst v3_22
      refine ks_goto (n := 2) S dX3_tollAfter_25 rfl ?_
      refine ih _ (by omega) ⟨by omega, fun e he => ?_, fun d d0 d1 => ?_⟩
      · rw [← F e he]; funext j; exact kq_up_c he
      · rw [kq_up_of]; split
        · rename_i hdi; rw [hdi]; rfl
        · exact hz d d0 (by omega)
  refine ks_iconst (n := 1) S dX3_tollAfter_0 rfl (by unfold iv; decide) ?_
  refine ks_istore_n (n := 2) S dX3_tollAfter_1 rfl rfl (L' := fun yy => [some (kr 33), some (kr c), some (ki n), some (ki yy)]) (Nat.le_of_ble_eq_true rfl) (fun _ => rfl) (fun v3_1 hv1 => ?_)
  obtain rfl : v3_1 = 0 := by omega
  exact lp 0 σ n9.1 ⟨by omega, fun _ _ => rfl, fun d d0 d1 => by omega⟩
end WAYS2

