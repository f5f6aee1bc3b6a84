section REF1
variable {l : Launch} {σ : KS} {r : Nat}
def sr (σ : KS) (c : Nat) (a : RW) : KS := fun d => if d = c then a else σ d
theorem sr_r {σ : KS} {c : Nat} {a : RW} : sr σ c a c = a := if_pos rfl
theorem sr_n {σ : KS} {c d : Nat} {a : RW} (h : d ≠ c) : sr σ c a d = σ d := if_neg h
theorem sr_sr {σ : KS} {c : Nat} {a b : RW} : sr (sr σ c a) c b = sr σ c b := by funext d; unfold sr; split <;> rfl
theorem sr_self {σ : KS} {c : Nat} : sr σ c (σ c) = σ := by funext d; unfold sr; split <;> simp_all
theorem kq_up_sr {σ : KS} {c : Nat} {i v : Int} : kq_up σ c i v = sr σ c (ru (σ c) i v) := by
  funext d j
  unfold kq_up sr ru
  by_cases h : d = c
  · subst h; simp
  · simp [h]
theorem ev_X5_isIn {v a b : Int} : Ev l yX5_isIn cX5_isIn 3 (some .boolean) 0 0 [ki v, ki a, ki b] σ (Rt (some (ki (bi (a ≤ v ∧ v ≤ b)))) σ) := by
  refine ev_intro ym_X5_isIn.1 (Nat.le_of_ble_eq_true rfl) (fun hv hσ K S => ?_)
  have hv := hv
  show K 0 [some (ki v), some (ki a), some (ki b)] [] σ
  refine ks_iload_n (n := 1) S dX5_isIn_0 rfl rfl ?_
  refine ks_iload_n (n := 2) S dX5_isIn_1 rfl rfl ?_
  refine ks_icmp_lt (n := 5) (tgt := 14) S dX5_isIn_2 rfl rfl (fun h2 => ?_) (fun h2 => ?_)
  · skip
    refine ks_iconst (n := 15) S dX5_isIn_14 rfl (by unfold iv; decide) ?_
    refine ks_zret S dX5_isIn_15 (by first | exact Or.inl rfl | exact Or.inr rfl | exact bi_01) ?_
    first | exact rt_1 (by omega) | exact rt_0 (by omega)
  · skip
    refine ks_iload_n (n := 6) S dX5_isIn_5 rfl rfl ?_
    refine ks_iload_n (n := 7) S dX5_isIn_6 rfl rfl ?_
    refine ks_icmp_gt (n := 10) (tgt := 14) S dX5_isIn_7 rfl rfl (fun h7 => ?_) (fun h7 => ?_)
    · skip
      refine ks_iconst (n := 15) S dX5_isIn_14 rfl (by unfold iv; decide) ?_
      refine ks_zret S dX5_isIn_15 (by first | exact Or.inl rfl | exact Or.inr rfl | exact bi_01) ?_
      first | exact rt_1 (by omega) | exact rt_0 (by omega)
    · skip
      refine ks_iconst (n := 11) S dX5_isIn_10 rfl (by unfold iv; decide) ?_
      refine ks_goto (n := 15) S dX5_isIn_11 rfl ?_
      refine ks_zret S dX5_isIn_15 (by first | exact Or.inl rfl | exact Or.inr rfl | exact bi_01) ?_
      first | exact rt_1 (by omega) | exact rt_0 (by omega)
theorem ev_X5_held {v : Int} : Ev l yX5_held cX5_held 1 (some .int) 0 0 [ki v] σ (Rt (some (ki (m_held v))) σ) := by
  refine ev_intro ym_X5_held.1 (Nat.le_of_ble_eq_true rfl) (fun hv hσ K S => ?_)
  have hv := hv
  show K 0 [some (ki v)] [] σ
  refine ks_iload_n (n := 1) S dX5_held_0 rfl rfl ?_
  refine ks_if_ge (n := 4) (tgt := 8) S dX5_held_1 rfl rfl (fun h1 => ?_) (fun h1 => ?_)
  · skip
    refine ks_iload_n (n := 9) S dX5_held_8 rfl rfl ?_
    refine ks_bipush (n := 11) S dX5_held_9 rfl (by unfold iv; decide) ?_
    refine ks_icmp_le (n := 14) (tgt := 19) S dX5_held_11 rfl rfl (fun h11 => ?_) (fun h11 => ?_)
    · skip
      refine ks_iload_n (n := 20) S dX5_held_19 rfl rfl ?_
      refine ks_iret S dX5_held_20 ?_
      exact rt_e (by unfold m_held; (repeat' split) <;> omega)
    · skip
      refine ks_bipush (n := 16) S dX5_held_14 rfl (by unfold iv; decide) ?_
      refine ks_goto (n := 20) S dX5_held_16 rfl ?_
      refine ks_iret S dX5_held_20 ?_
      exact rt_e (by unfold m_held; (repeat' split) <;> omega)
  · skip
    refine ks_iconst (n := 5) S dX5_held_4 rfl (by unfold iv; decide) ?_
    refine ks_goto (n := 20) S dX5_held_5 rfl ?_
    refine ks_iret S dX5_held_20 ?_
    exact rt_e (by unfold m_held; (repeat' split) <;> omega)
theorem ev_X5_ofD {d w : Int} (hd : 0 ≤ d ∧ d ≤ 100) (hw : 0 ≤ w ∧ w ≤ 10) : Ev l yX5_ofD cX5_ofD 2 (some .int) 0 0 [ki d, ki w] σ (Rt (some (ki (3 + 6 * d + w))) σ) := by
  refine ev_intro ym_X5_ofD.1 (Nat.le_of_ble_eq_true rfl) (fun hv hσ K S => ?_)
  have hv := hv
  show K 0 [some (ki d), some (ki w)] [] σ
  refine ks_iconst (n := 1) S dX5_ofD_0 rfl (by unfold iv; decide) ?_
  refine ks_bipush (n := 3) S dX5_ofD_1 rfl (by unfold iv; decide) ?_
  refine ks_iload_n (n := 4) S dX5_ofD_3 rfl rfl ?_
  refine ks_imul (n := 5) S dX5_ofD_4 rfl (by omega) ?_
  refine ks_iadd (n := 6) S dX5_ofD_5 rfl (by omega) ?_
  refine ks_iload_n (n := 7) S dX5_ofD_6 rfl rfl ?_
  refine ks_iadd (n := 8) S dX5_ofD_7 rfl (by omega) ?_
  refine ks_iret S dX5_ofD_8 ?_
  exact rt_r
theorem ev_X5_ofP {d w : Int} (hd : 0 ≤ d ∧ d ≤ 100) (hw : 0 ≤ w ∧ w ≤ 10) : Ev l yX5_ofP cX5_ofP 2 (some .int) 0 0 [ki d, ki w] σ (Rt (some (ki (57 + 3 * d + w))) σ) := by
  refine ev_intro ym_X5_ofP.1 (Nat.le_of_ble_eq_true rfl) (fun hv hσ K S => ?_)
  have hv := hv
  show K 0 [some (ki d), some (ki w)] [] σ
  refine ks_bipush (n := 2) S dX5_ofP_0 rfl (by unfold iv; decide) ?_
  refine ks_iconst (n := 3) S dX5_ofP_2 rfl (by unfold iv; decide) ?_
  refine ks_iload_n (n := 4) S dX5_ofP_3 rfl rfl ?_
  refine ks_imul (n := 5) S dX5_ofP_4 rfl (by omega) ?_
  refine ks_iadd (n := 6) S dX5_ofP_5 rfl (by omega) ?_
  refine ks_iload_n (n := 7) S dX5_ofP_6 rfl rfl ?_
  refine ks_iadd (n := 8) S dX5_ofP_7 rfl (by omega) ?_
  refine ks_iret S dX5_ofP_8 ?_
  exact rt_r
theorem ev_X5_isRoom {o : Int} : Ev l yX5_isRoom cX5_isRoom 1 (some .boolean) 1 22 [ki o] σ (Rt (some (ki (bi (0 ≤ o ∧ o ≤ 6)))) σ) := by
  refine ev_intro ym_X5_isRoom.1 (Nat.le_of_ble_eq_true rfl) (fun hv hσ K S => ?_)
  have hv := hv
  show K 0 [some (ki o)] [] σ
  refine ks_iload_n (n := 1) S dX5_isRoom_0 rfl rfl ?_
  refine ks_iconst (n := 2) S dX5_isRoom_1 rfl (by unfold iv; decide) ?_
  refine ks_bipush (n := 4) S dX5_isRoom_2 rfl (by unfold iv; decide) ?_
  refine kf_s3z (n := 7) S dX5_isRoom_4 rfl ml_X5_44 ym_X5_isIn (ev_X5_isIn) (by decide) (Nat.le_of_ble_eq_true rfl) ?_
  refine ks_zret S dX5_isRoom_7 (by first | exact Or.inl rfl | exact Or.inr rfl | exact bi_01) ?_
  exact rt_r
theorem ev_X5_isDoor {d : Int} (h : 0 ≤ σ 39 0 ∧ σ 39 0 ≤ 9) : Ev l yX5_isDoor cX5_isDoor 2 (some .boolean) 1 22 [kr 38, ki d] σ (Rt (some (ki (bi (0 ≤ d ∧ d ≤ σ 39 0 - 1)))) σ) := by
  refine ev_intro ym_X5_isDoor.1 (Nat.le_of_ble_eq_true rfl) (fun hv hσ K S => ?_)
  have hv := hv
  show K 0 [some (kr 38), some (ki d)] [] σ
  refine ks_iload_n (n := 1) S dX5_isDoor_0 rfl rfl ?_
  refine ks_iconst (n := 2) S dX5_isDoor_1 rfl (by unfold iv; decide) ?_
  refine ks_aload_n (n := 3) S dX5_isDoor_2 rfl rfl ?_
  refine ks_getr (n := 6) S dX5_isDoor_3 rfl fl_X5_9 rfl rfl ?_
  refine ks_iconst (n := 7) S dX5_isDoor_6 rfl (by unfold iv; decide) ?_
  refine ks_iaload (n := 8) S dX5_isDoor_7 rfl rfl (by omega) ?_
  refine ks_iconst (n := 9) S dX5_isDoor_8 rfl (by unfold iv; decide) ?_
  refine ks_isub (n := 10) S dX5_isDoor_9 rfl (by omega) ?_
  refine kf_s3z (n := 13) S dX5_isDoor_10 rfl ml_X5_44 ym_X5_isIn (ev_X5_isIn) (by decide) (Nat.le_of_ble_eq_true rfl) ?_
  refine ks_zret S dX5_isDoor_13 (by first | exact Or.inl rfl | exact Or.inr rfl | exact bi_01) ?_
  exact rt_r
theorem ev_X5_isPerson {d : Int} (h : 0 ≤ σ 39 1 ∧ σ 39 1 ≤ 6) : Ev l yX5_isPerson cX5_isPerson 2 (some .boolean) 1 22 [kr 38, ki d] σ (Rt (some (ki (bi (0 ≤ d ∧ d ≤ σ 39 1 - 1)))) σ) := by
  refine ev_intro ym_X5_isPerson.1 (Nat.le_of_ble_eq_true rfl) (fun hv hσ K S => ?_)
  have hv := hv
  show K 0 [some (kr 38), some (ki d)] [] σ
  refine ks_iload_n (n := 1) S dX5_isPerson_0 rfl rfl ?_
  refine ks_iconst (n := 2) S dX5_isPerson_1 rfl (by unfold iv; decide) ?_
  refine ks_aload_n (n := 3) S dX5_isPerson_2 rfl rfl ?_
  refine ks_getr (n := 6) S dX5_isPerson_3 rfl fl_X5_9 rfl rfl ?_
  refine ks_iconst (n := 7) S dX5_isPerson_6 rfl (by unfold iv; decide) ?_
  refine ks_iaload (n := 8) S dX5_isPerson_7 rfl rfl (by omega) ?_
  refine ks_iconst (n := 9) S dX5_isPerson_8 rfl (by unfold iv; decide) ?_
  refine ks_isub (n := 10) S dX5_isPerson_9 rfl (by omega) ?_
  refine kf_s3z (n := 13) S dX5_isPerson_10 rfl ml_X5_44 ym_X5_isIn (ev_X5_isIn) (by decide) (Nat.le_of_ble_eq_true rfl) ?_
  refine ks_zret S dX5_isPerson_13 (by first | exact Or.inl rfl | exact Or.inr rfl | exact bi_01) ?_
  exact rt_r
theorem ev_X5_wrongBy {v a b : Int} : Ev l yX5_wrongBy cX5_wrongBy 3 (some .int) 0 0 [ki v, ki a, ki b] σ (Rt (some (ki (if v < a then -4 else if b < v then -6 else 0))) σ) := by
  refine ev_intro ym_X5_wrongBy.1 (Nat.le_of_ble_eq_true rfl) (fun hv hσ K S => ?_)
  have hv := hv
  show K 0 [some (ki v), some (ki a), some (ki b)] [] σ
  refine ks_iload_n (n := 1) S dX5_wrongBy_0 rfl rfl ?_
  refine ks_iload_n (n := 2) S dX5_wrongBy_1 rfl rfl ?_
  refine ks_icmp_ge (n := 5) (tgt := 10) S dX5_wrongBy_2 rfl rfl (fun h2 => ?_) (fun h2 => ?_)
  · skip
    refine ks_iload_n (n := 11) S dX5_wrongBy_10 rfl rfl ?_
    refine ks_iload_n (n := 12) S dX5_wrongBy_11 rfl rfl ?_
    refine ks_icmp_le (n := 15) (tgt := 20) S dX5_wrongBy_12 rfl rfl (fun h12 => ?_) (fun h12 => ?_)
    · skip
      refine ks_iconst (n := 21) S dX5_wrongBy_20 rfl (by unfold iv; decide) ?_
      refine ks_iret S dX5_wrongBy_21 ?_
      exact rt_e (by (repeat' split) <;> omega)
    · skip
      refine ks_bipush (n := 17) S dX5_wrongBy_15 rfl (by unfold iv; decide) ?_
      refine ks_goto (n := 21) S dX5_wrongBy_17 rfl ?_
      refine ks_iret S dX5_wrongBy_21 ?_
      exact rt_e (by (repeat' split) <;> omega)
  · skip
    refine ks_bipush (n := 7) S dX5_wrongBy_5 rfl (by unfold iv; decide) ?_
    refine ks_goto (n := 21) S dX5_wrongBy_7 rfl ?_
    refine ks_iret S dX5_wrongBy_21 ?_
    exact rt_e (by (repeat' split) <;> omega)
theorem ev_X5_areWrong {p o : Int} (h : 0 ≤ σ 39 1 ∧ σ 39 1 ≤ 6) : Ev l yX5_areWrong cX5_areWrong 3 (some .boolean) 2 43 [kr 38, ki p, ki o] σ (Rt (some (ki (bi (¬ ((0 ≤ p ∧ p ≤ σ 39 1 - 1) ∧ (0 ≤ o ∧ o ≤ 6)))))) σ) := by
  refine ev_intro ym_X5_areWrong.1 (Nat.le_of_ble_eq_true rfl) (fun hv hσ K S => ?_)
  have hv := hv
  show K 0 [some (kr 38), some (ki p), some (ki o)] [] σ
  refine ks_aload_n (n := 1) S dX5_areWrong_0 rfl rfl ?_
  refine ks_iload_n (n := 2) S dX5_areWrong_1 rfl rfl ?_
  refine kf_v1z (n := 5) S dX5_areWrong_2 rfl ml_X5_117 ym_X5_isPerson (ev_X5_isPerson h) (by decide) rfl (Nat.le_of_ble_eq_true rfl) ?_
  refine ks_if_eq (n := 8) (tgt := 15) S dX5_areWrong_5 rfl rfl (fun h5 => ?_) (fun h5 => ?_)
  · skip
    simp only [bi_eq, bi_ne] at *
    refine ks_iconst (n := 16) S dX5_areWrong_15 rfl (by unfold iv; decide) ?_
    refine ks_goto (n := 20) S dX5_areWrong_16 rfl ?_
    refine ks_zret S dX5_areWrong_20 (by first | exact Or.inl rfl | exact Or.inr rfl | exact bi_01) ?_
    first | exact rt_1 (by omega) | exact rt_0 (by omega)
  · skip
    simp only [bi_eq, bi_ne] at *
    refine ks_iload_n (n := 9) S dX5_areWrong_8 rfl rfl ?_
    refine kf_s1z (n := 12) S dX5_areWrong_9 rfl ml_X5_109 ym_X5_isRoom (ev_X5_isRoom) (by decide) (Nat.le_of_ble_eq_true rfl) ?_
    refine ks_if_ne (n := 15) (tgt := 19) S dX5_areWrong_12 rfl rfl (fun h12 => ?_) (fun h12 => ?_)
    · skip
      simp only [bi_eq, bi_ne] at *
      refine ks_iconst (n := 20) S dX5_areWrong_19 rfl (by unfold iv; decide) ?_
      refine ks_zret S dX5_areWrong_20 (by first | exact Or.inl rfl | exact Or.inr rfl | exact bi_01) ?_
      first | exact rt_1 (by omega) | exact rt_0 (by omega)
    · skip
      simp only [bi_eq, bi_ne] at *
      refine ks_iconst (n := 16) S dX5_areWrong_15 rfl (by unfold iv; decide) ?_
      refine ks_goto (n := 20) S dX5_areWrong_16 rfl ?_
      refine ks_zret S dX5_areWrong_20 (by first | exact Or.inl rfl | exact Or.inr rfl | exact bi_01) ?_
      first | exact rt_1 (by omega) | exact rt_0 (by omega)
theorem ev_X5_no {k : Int} (h : -6 ≤ k ∧ k ≤ 0) : Ev l yX5_no cX5_no 2 (some .int) 0 0 [kr 38, ki k] σ (Rt (some (ki k)) (kq_up σ 45 (-k) (wr (σ 45 (-k) + 1)))) := by
  refine ev_intro ym_X5_no.1 (Nat.le_of_ble_eq_true rfl) (fun hv hσ K S => ?_)
  have hv := hv
  show K 0 [some (kr 38), some (ki k)] [] σ
  refine ks_aload_n (n := 1) S dX5_no_0 rfl rfl ?_
  refine ks_getr (n := 4) S dX5_no_1 rfl fl_X5_28 rfl rfl ?_
  refine ks_iload_n (n := 5) S dX5_no_4 rfl rfl ?_
  refine ks_ineg (n := 6) S dX5_no_5 rfl (by omega) ?_
  refine ks_dup2 (n := 7) S dX5_no_6 rfl rfl rfl ?_
  refine ks_iaload (n := 8) S dX5_no_7 rfl rfl (by omega) ?_
  refine ks_iconst (n := 9) S dX5_no_8 rfl (by unfold iv; decide) ?_
  refine ks_iaddW (n := 10) S dX5_no_9 rfl ?_
  refine ks_iastore (n := 11) S dX5_no_10 rfl rfl (by omega) ?_
  refine ks_iload_n (n := 12) S dX5_no_11 rfl rfl ?_
  refine ks_iret S dX5_no_12 ?_
  exact rt_r
theorem ev_X5_noFar {k : Int} (h : -6 ≤ k ∧ k ≤ 0) : Ev l yX5_noFar cX5_noFar 2 (some .int) 1 21 [kr 38, ki k] σ (Rt (some (ki (1000000000 - k))) (kq_up σ 45 (-k) (wr (σ 45 (-k) + 1)))) := by
  refine ev_intro ym_X5_noFar.1 (Nat.le_of_ble_eq_true rfl) (fun hv hσ K S => ?_)
  have hv := hv
  show K 0 [some (kr 38), some (ki k)] [] σ
  refine ks_ldc (n := 2) (x := 1000000000) S dX5_noFar_0 rfl ct_X5_37 (by unfold iv; decide +kernel) ?_
  refine ks_aload_n (n := 3) S dX5_noFar_2 rfl rfl ?_
  refine ks_iload_n (n := 4) S dX5_noFar_3 rfl rfl ?_
  refine kf_v1i (n := 7) S dX5_noFar_4 rfl ml_X5_38 ym_X5_no (ev_X5_no h) (by decide) rfl (Nat.le_of_ble_eq_true rfl) ?_
  refine ks_isub (n := 8) S dX5_noFar_7 rfl (by omega) ?_
  refine ks_iret S dX5_noFar_8 ?_
  exact rt_r
theorem ev_X5_noWide {k : Int} (h : -6 ≤ k ∧ k ≤ 0) : Ev l yX5_noWide cX5_noWide 2 (some .long) 1 21 [kr 38, ki k] σ (Rt (some (kj (4000000000000000000 - k))) (kq_up σ 45 (-k) (wr (σ 45 (-k) + 1)))) := by
  refine ev_intro ym_X5_noWide.1 (Nat.le_of_ble_eq_true rfl) (fun hv hσ K S => ?_)
  have hv := hv
  show K 0 [some (kr 38), some (ki k)] [] σ
  refine ks_ldc2 (n := 3) (x := 4000000000000000000) S dX5_noWide_0 rfl ct_X5_42 (by unfold jv; decide +kernel) ?_
  refine ks_aload_n (n := 4) S dX5_noWide_3 rfl rfl ?_
  refine ks_iload_n (n := 5) S dX5_noWide_4 rfl rfl ?_
  refine kf_v1i (n := 8) S dX5_noWide_5 rfl ml_X5_38 ym_X5_no (ev_X5_no h) (by decide) rfl (Nat.le_of_ble_eq_true rfl) ?_
  refine ks_i2l (n := 9) S dX5_noWide_8 rfl ?_
  refine ks_lsub (n := 10) S dX5_noWide_9 rfl (by omega) ?_
  refine ks_lret S dX5_noWide_10 ?_
  exact rt_r
theorem ev_X5_copies {t : Nat} (hr : kq_sh[r]? = some (.inl 75)) (ht : kq_sh[t]? = some (.inl 75)) (hne : r ≠ t) (z1 : Zr (σ r)) (z2 : Zr (σ t)) : Ev l yX5_copies cX5_copies 3 none 0 0 [kr r, kr t] σ (Rt none (sr σ t (σ r))) := by
  refine ev_intro ym_X5_copies.1 (Nat.le_of_ble_eq_true rfl) (fun hv hσ K S => ?_)
  have hv := hv
  show K 0 [some (kr r), some (kr t), none] [] σ
  refine kq_use (kq_for (α := KS) 75 (fun i ρ => 0 ≤ i ∧ ρ = sr σ t (fun j => if 0 ≤ j ∧ j < i then σ r j else σ t j)) (fun i ρ => K 2 [some (kr r), some (kr t), some (ki i)] [] ρ) ?_) (fun lp => ?_)
  · intro i ρ hi inv ih
    obtain ⟨i0, hρ⟩ := inv
    refine ks_iload_n (n := 3) S dX5_copies_2 rfl rfl ?_
    refine ks_bipush (n := 5) S dX5_copies_3 rfl (by unfold iv; decide) ?_
    refine ks_icmp_ge (n := 8) (tgt := 20) S dX5_copies_5 rfl rfl (fun h5 => ?_) (fun h5 => ?_)
    · skip
      refine ks_vret S dX5_copies_20 ?_
      refine ⟨rfl, ?_⟩
      rw [hρ]
      congr 1
      funext j
      by_cases hj : 0 ≤ j ∧ j < i
      · rw [if_pos hj]
      · rw [if_neg hj, z1 j (by omega), z2 j (by omega)]
    · skip
      refine ks_aload_n (n := 9) S dX5_copies_8 rfl rfl ?_
      refine ks_iload_n (n := 10) S dX5_copies_9 rfl rfl ?_
      refine ks_aload_n (n := 11) S dX5_copies_10 rfl rfl ?_
      refine ks_iload_n (n := 12) S dX5_copies_11 rfl rfl ?_
      refine ks_iaload (n := 13) S dX5_copies_12 rfl hr (by omega) ?_
      refine ks_iastore (n := 14) S dX5_copies_13 rfl ht (by omega) ?_
      refine ks_iinc (n := 17) S dX5_copies_14 rfl rfl (by omega) (L' := fun y => [some (kr r), some (kr t), some (ki y)]) (fun _ => rfl) (fun v2_14 hv14 => ?_)
      subst hv14
      refine ks_goto (n := 2) S dX5_copies_17 rfl ?_
      refine ih _ (by omega) ⟨by omega, ?_⟩
      rw [kq_up_sr, hρ, sr_sr, sr_r, sr_n hne]
      congr 1
      funext j
      unfold ru
      by_cases hj : j = i
      · rw [if_pos hj, if_pos (by omega), hj]
      · rw [if_neg hj]; simp only [show (0 ≤ j ∧ j < i + 1) ↔ (0 ≤ j ∧ j < i) by omega]
  refine ks_iconst (n := 1) S dX5_copies_0 rfl (by unfold iv; decide) ?_
  refine ks_istore_n (n := 2) S dX5_copies_1 rfl rfl (L' := fun y => [some (kr r), some (kr t), some (ki y)]) (Nat.le_of_ble_eq_true rfl) (fun _ => rfl) (fun v2_1 hv1 => ?_)
  subst hv1
  refine lp 0 _ (by omega) ⟨by omega, ?_⟩
  rw [show (fun j => if 0 ≤ j ∧ j < 0 then σ r j else σ t j) = σ t by funext j; rw [if_neg (by omega)], sr_self]
theorem ev_X5_gives {d : Int} (hr : kq_sh[r]? = some (.inl 75)) (hd : 0 ≤ d ∧ d < 9) (hf : 0 ≤ aD (σ r) d 1 ∧ aD (σ r) d 1 ≤ 9) (hh : 0 ≤ aD (σ r) d 4 ∧ aD (σ r) d 4 ≤ 99) : Ev l yX5_gives cX5_gives 4 (some .int) 1 21 [kr r, ki d] σ (Rt (some (ki (m_gv (σ r) d))) σ) := by
  have e4 : aD (σ r) d 4 = σ r (3 + 6 * d + 4) := rfl
  have e1 : aD (σ r) d 1 = σ r (3 + 6 * d + 1) := rfl
  have e0 : aD (σ r) d 0 = σ r (3 + 6 * d + 0) := rfl
  refine ev_intro ym_X5_gives.1 (Nat.le_of_ble_eq_true rfl) (fun hv hσ K S => ?_)
  have hv := hv
  show K 0 [some (kr r), some (ki d), none, none] [] σ
  refine ks_aload_n (n := 1) S dX5_gives_0 rfl rfl ?_
  refine ks_iload_n (n := 2) S dX5_gives_1 rfl rfl ?_
  refine ks_iconst (n := 3) S dX5_gives_2 rfl (by unfold iv; decide) ?_
  refine kf_s2i (n := 6) S dX5_gives_3 rfl ml_X5_48 ym_X5_ofD (ev_X5_ofD (by omega) (by omega)) (by decide) (Nat.le_of_ble_eq_true rfl) ?_
  refine ks_iaload (n := 7) S dX5_gives_6 rfl hr (by omega) ?_
  refine ks_istore_n (n := 8) S dX5_gives_7 rfl rfl (L' := fun y => [some (kr r), some (ki d), some (ki y), none]) (Nat.le_of_ble_eq_true rfl) (fun _ => rfl) (fun v2_7 hv7 => ?_)
  subst hv7
  refine ks_iload_n (n := 9) S dX5_gives_8 rfl rfl ?_
  refine ks_if_ne (n := 12) (tgt := 16) S dX5_gives_9 rfl rfl (fun h9 => ?_) (fun h9 => ?_)
  · skip
    refine ks_iload_n (n := 17) S dX5_gives_16 rfl rfl ?_
    refine ks_aload_n (n := 18) S dX5_gives_17 rfl rfl ?_
    refine ks_iload_n (n := 19) S dX5_gives_18 rfl rfl ?_
    refine ks_iconst (n := 20) S dX5_gives_19 rfl (by unfold iv; decide) ?_
    refine kf_s2i (n := 23) S dX5_gives_20 rfl ml_X5_48 ym_X5_ofD (ev_X5_ofD (by omega) (by omega)) (by decide) (Nat.le_of_ble_eq_true rfl) ?_
    refine ks_iaload (n := 24) S dX5_gives_23 rfl hr (by omega) ?_
    refine ks_iadd (n := 25) S dX5_gives_24 rfl (by omega) ?_
    refine ks_istore_n (n := 26) S dX5_gives_25 rfl rfl (L' := fun y => [some (kr r), some (ki d), some (ki _), some (ki y)]) (Nat.le_of_ble_eq_true rfl) (fun _ => rfl) (fun v3_25 hv25 => ?_)
    subst hv25
    refine ks_aload_n (n := 27) S dX5_gives_26 rfl rfl ?_
    refine ks_iload_n (n := 28) S dX5_gives_27 rfl rfl ?_
    refine ks_iconst (n := 29) S dX5_gives_28 rfl (by unfold iv; decide) ?_
    refine kf_s2i (n := 32) S dX5_gives_29 rfl ml_X5_48 ym_X5_ofD (ev_X5_ofD (by omega) (by omega)) (by decide) (Nat.le_of_ble_eq_true rfl) ?_
    refine ks_iaload (n := 33) S dX5_gives_32 rfl hr (by omega) ?_
    refine ks_table S (tdf := 78) [68, 70, 72, 78, 74] dX5_gives_33 (by decide) (by decide) rfl (fun h33 => ?_) (And.intro (fun h33 => ?_) (And.intro (fun h33 => ?_) (And.intro (fun h33 => ?_) (And.intro (fun h33 => ?_) (And.intro (fun h33 => ?_) trivial)))))
    · skip
      refine ks_iload_n (n := 79) S dX5_gives_78 rfl rfl ?_
      refine ks_iconst (n := 80) S dX5_gives_79 rfl (by unfold iv; decide) ?_
      refine ks_idiv (n := 81) S dX5_gives_80 rfl (by omega) ?_
      refine ks_iret S dX5_gives_81 ?_
      exact rt_e (by unfold m_gv m_gives m_sg; (repeat' split) <;> omega)
    · skip
      refine ks_iload_n (n := 69) S dX5_gives_68 rfl rfl ?_
      refine ks_iret S dX5_gives_69 ?_
      exact rt_e (by unfold m_gv m_gives m_sg; (repeat' split) <;> omega)
    · skip
      refine ks_iconst (n := 71) S dX5_gives_70 rfl (by unfold iv; decide) ?_
      refine ks_iret S dX5_gives_71 ?_
      exact rt_e (by unfold m_gv m_gives m_sg; (repeat' split) <;> omega)
    · skip
      refine ks_iload_n (n := 73) S dX5_gives_72 rfl rfl ?_
      refine ks_iret S dX5_gives_73 ?_
      exact rt_e (by unfold m_gv m_gives m_sg; (repeat' split) <;> omega)
    · skip
      refine ks_iload_n (n := 79) S dX5_gives_78 rfl rfl ?_
      refine ks_iconst (n := 80) S dX5_gives_79 rfl (by unfold iv; decide) ?_
      refine ks_idiv (n := 81) S dX5_gives_80 rfl (by omega) ?_
      refine ks_iret S dX5_gives_81 ?_
      exact rt_e (by unfold m_gv m_gives m_sg; (repeat' split) <;> omega)
    · skip
      refine ks_iload_n (n := 75) S dX5_gives_74 rfl rfl ?_
      refine ks_iconst (n := 76) S dX5_gives_75 rfl (by unfold iv; decide) ?_
      refine ks_idiv (n := 77) S dX5_gives_76 rfl (by omega) ?_
      refine ks_iret S dX5_gives_77 ?_
      exact rt_e (by unfold m_gv m_gives m_sg; (repeat' split) <;> omega)
  · skip
    refine ks_iconst (n := 13) S dX5_gives_12 rfl (by unfold iv; decide) ?_
    refine ks_goto (n := 25) S dX5_gives_13 rfl ?_
    refine ks_istore_n (n := 26) S dX5_gives_25 rfl rfl (L' := fun y => [some (kr r), some (ki d), some (ki _), some (ki y)]) (Nat.le_of_ble_eq_true rfl) (fun _ => rfl) (fun v3_25 hv25 => ?_)
    subst hv25
    refine ks_aload_n (n := 27) S dX5_gives_26 rfl rfl ?_
    refine ks_iload_n (n := 28) S dX5_gives_27 rfl rfl ?_
    refine ks_iconst (n := 29) S dX5_gives_28 rfl (by unfold iv; decide) ?_
    refine kf_s2i (n := 32) S dX5_gives_29 rfl ml_X5_48 ym_X5_ofD (ev_X5_ofD (by omega) (by omega)) (by decide) (Nat.le_of_ble_eq_true rfl) ?_
    refine ks_iaload (n := 33) S dX5_gives_32 rfl hr (by omega) ?_
    refine ks_table S (tdf := 78) [68, 70, 72, 78, 74] dX5_gives_33 (by decide) (by decide) rfl (fun h33 => ?_) (And.intro (fun h33 => ?_) (And.intro (fun h33 => ?_) (And.intro (fun h33 => ?_) (And.intro (fun h33 => ?_) (And.intro (fun h33 => ?_) trivial)))))
    · skip
      refine ks_iload_n (n := 79) S dX5_gives_78 rfl rfl ?_
      refine ks_iconst (n := 80) S dX5_gives_79 rfl (by unfold iv; decide) ?_
      refine ks_idiv (n := 81) S dX5_gives_80 rfl (by omega) ?_
      refine ks_iret S dX5_gives_81 ?_
      exact rt_e (by unfold m_gv m_gives m_sg; (repeat' split) <;> omega)
    · skip
      refine ks_iload_n (n := 69) S dX5_gives_68 rfl rfl ?_
      refine ks_iret S dX5_gives_69 ?_
      exact rt_e (by unfold m_gv m_gives m_sg; (repeat' split) <;> omega)
    · skip
      refine ks_iconst (n := 71) S dX5_gives_70 rfl (by unfold iv; decide) ?_
      refine ks_iret S dX5_gives_71 ?_
      exact rt_e (by unfold m_gv m_gives m_sg; (repeat' split) <;> omega)
    · skip
      refine ks_iload_n (n := 73) S dX5_gives_72 rfl rfl ?_
      refine ks_iret S dX5_gives_73 ?_
      exact rt_e (by unfold m_gv m_gives m_sg; (repeat' split) <;> omega)
    · skip
      refine ks_iload_n (n := 79) S dX5_gives_78 rfl rfl ?_
      refine ks_iconst (n := 80) S dX5_gives_79 rfl (by unfold iv; decide) ?_
      refine ks_idiv (n := 81) S dX5_gives_80 rfl (by omega) ?_
      refine ks_iret S dX5_gives_81 ?_
      exact rt_e (by unfold m_gv m_gives m_sg; (repeat' split) <;> omega)
    · skip
      refine ks_iload_n (n := 75) S dX5_gives_74 rfl rfl ?_
      refine ks_iconst (n := 76) S dX5_gives_75 rfl (by unfold iv; decide) ?_
      refine ks_idiv (n := 77) S dX5_gives_76 rfl (by omega) ?_
      refine ks_iret S dX5_gives_77 ?_
      exact rt_e (by unfold m_gv m_gives m_sg; (repeat' split) <;> omega)
theorem ev_X5_keeps {d s : Int} (hr : kq_sh[r]? = some (.inl 75)) (hd : 0 ≤ d ∧ d < 9) (hf : 0 ≤ aD (σ r) d 1 ∧ aD (σ r) d 1 ≤ 9) (hs : 0 ≤ s ∧ s ≤ 999) : Ev l yX5_keeps cX5_keeps 3 (some .int) 1 21 [kr r, ki d, ki s] σ (Rt (some (ki (m_kp (σ r) d s))) σ) := by
  have e1 : aD (σ r) d 1 = σ r (3 + 6 * d + 1) := rfl
  have e0 : aD (σ r) d 0 = σ r (3 + 6 * d + 0) := rfl
  refine ev_intro ym_X5_keeps.1 (Nat.le_of_ble_eq_true rfl) (fun hv hσ K S => ?_)
  have hv := hv
  show K 0 [some (kr r), some (ki d), some (ki s)] [] σ
  refine ks_aload_n (n := 1) S dX5_keeps_0 rfl rfl ?_
  refine ks_iload_n (n := 2) S dX5_keeps_1 rfl rfl ?_
  refine ks_iconst (n := 3) S dX5_keeps_2 rfl (by unfold iv; decide) ?_
  refine kf_s2i (n := 6) S dX5_keeps_3 rfl ml_X5_48 ym_X5_ofD (ev_X5_ofD (by omega) (by omega)) (by decide) (Nat.le_of_ble_eq_true rfl) ?_
  refine ks_iaload (n := 7) S dX5_keeps_6 rfl hr (by omega) ?_
  refine ks_table S (tdf := 50) [36, 40, 36, 40] dX5_keeps_7 (by decide) (by decide) rfl (fun h7 => ?_) (And.intro (fun h7 => ?_) (And.intro (fun h7 => ?_) (And.intro (fun h7 => ?_) (And.intro (fun h7 => ?_) trivial))))
  · skip
    refine ks_iload_n (n := 51) S dX5_keeps_50 rfl rfl ?_
    refine ks_iret S dX5_keeps_51 ?_
    exact rt_e (by unfold m_kp m_keeps; (repeat' split) <;> omega)
  · skip
    refine ks_iload_n (n := 37) S dX5_keeps_36 rfl rfl ?_
    refine ks_iconst (n := 38) S dX5_keeps_37 rfl (by unfold iv; decide) ?_
    refine ks_idiv (n := 39) S dX5_keeps_38 rfl (by omega) ?_
    refine ks_iret S dX5_keeps_39 ?_
    exact rt_e (by unfold m_kp m_keeps; (repeat' split) <;> omega)
  · skip
    refine ks_iload_n (n := 41) S dX5_keeps_40 rfl rfl ?_
    refine ks_aload_n (n := 42) S dX5_keeps_41 rfl rfl ?_
    refine ks_iload_n (n := 43) S dX5_keeps_42 rfl rfl ?_
    refine ks_iconst (n := 44) S dX5_keeps_43 rfl (by unfold iv; decide) ?_
    refine kf_s2i (n := 47) S dX5_keeps_44 rfl ml_X5_48 ym_X5_ofD (ev_X5_ofD (by omega) (by omega)) (by decide) (Nat.le_of_ble_eq_true rfl) ?_
    refine ks_iaload (n := 48) S dX5_keeps_47 rfl hr (by omega) ?_
    refine ks_iadd (n := 49) S dX5_keeps_48 rfl (by omega) ?_
    refine ks_iret S dX5_keeps_49 ?_
    exact rt_e (by unfold m_kp m_keeps; (repeat' split) <;> omega)
  · skip
    refine ks_iload_n (n := 37) S dX5_keeps_36 rfl rfl ?_
    refine ks_iconst (n := 38) S dX5_keeps_37 rfl (by unfold iv; decide) ?_
    refine ks_idiv (n := 39) S dX5_keeps_38 rfl (by omega) ?_
    refine ks_iret S dX5_keeps_39 ?_
    exact rt_e (by unfold m_kp m_keeps; (repeat' split) <;> omega)
  · skip
    refine ks_iload_n (n := 41) S dX5_keeps_40 rfl rfl ?_
    refine ks_aload_n (n := 42) S dX5_keeps_41 rfl rfl ?_
    refine ks_iload_n (n := 43) S dX5_keeps_42 rfl rfl ?_
    refine ks_iconst (n := 44) S dX5_keeps_43 rfl (by unfold iv; decide) ?_
    refine kf_s2i (n := 47) S dX5_keeps_44 rfl ml_X5_48 ym_X5_ofD (ev_X5_ofD (by omega) (by omega)) (by decide) (Nat.le_of_ble_eq_true rfl) ?_
    refine ks_iaload (n := 48) S dX5_keeps_47 rfl hr (by omega) ?_
    refine ks_iadd (n := 49) S dX5_keeps_48 rfl (by omega) ?_
    refine ks_iret S dX5_keeps_49 ?_
    exact rt_e (by unfold m_kp m_keeps; (repeat' split) <;> omega)
theorem ev_X5_cools {d : Int} (hr : kq_sh[r]? = some (.inl 75)) (hd : 0 ≤ d ∧ d < 9) (hf : 0 ≤ aD (σ r) d 1 ∧ aD (σ r) d 1 ≤ 9) : Ev l yX5_cools cX5_cools 2 (some .int) 1 21 [kr r, ki d] σ (Rt (some (ki (m_cl (σ r) d))) σ) := by
  have e1 : aD (σ r) d 1 = σ r (3 + 6 * d + 1) := rfl
  have e0 : aD (σ r) d 0 = σ r (3 + 6 * d + 0) := rfl
  refine ev_intro ym_X5_cools.1 (Nat.le_of_ble_eq_true rfl) (fun hv hσ K S => ?_)
  have hv := hv
  show K 0 [some (kr r), some (ki d)] [] σ
  refine ks_aload_n (n := 1) S dX5_cools_0 rfl rfl ?_
  refine ks_iload_n (n := 2) S dX5_cools_1 rfl rfl ?_
  refine ks_iconst (n := 3) S dX5_cools_2 rfl (by unfold iv; decide) ?_
  refine kf_s2i (n := 6) S dX5_cools_3 rfl ml_X5_48 ym_X5_ofD (ev_X5_ofD (by omega) (by omega)) (by decide) (Nat.le_of_ble_eq_true rfl) ?_
  refine ks_iaload (n := 7) S dX5_cools_6 rfl hr (by omega) ?_
  refine ks_table S (tdf := 54) [40, 54, 42, 44, 42] dX5_cools_7 (by decide) (by decide) rfl (fun h7 => ?_) (And.intro (fun h7 => ?_) (And.intro (fun h7 => ?_) (And.intro (fun h7 => ?_) (And.intro (fun h7 => ?_) (And.intro (fun h7 => ?_) trivial)))))
  · skip
    refine ks_iconst (n := 55) S dX5_cools_54 rfl (by unfold iv; decide) ?_
    refine ks_iret S dX5_cools_55 ?_
    exact rt_e (by unfold m_cl m_cools; (repeat' split) <;> omega)
  · skip
    refine ks_iconst (n := 41) S dX5_cools_40 rfl (by unfold iv; decide) ?_
    refine ks_iret S dX5_cools_41 ?_
    exact rt_e (by unfold m_cl m_cools; (repeat' split) <;> omega)
  · skip
    refine ks_iconst (n := 55) S dX5_cools_54 rfl (by unfold iv; decide) ?_
    refine ks_iret S dX5_cools_55 ?_
    exact rt_e (by unfold m_cl m_cools; (repeat' split) <;> omega)
  · skip
    refine ks_iconst (n := 43) S dX5_cools_42 rfl (by unfold iv; decide) ?_
    refine ks_iret S dX5_cools_43 ?_
    exact rt_e (by unfold m_cl m_cools; (repeat' split) <;> omega)
  · skip
    refine ks_iconst (n := 45) S dX5_cools_44 rfl (by unfold iv; decide) ?_
    refine ks_aload_n (n := 46) S dX5_cools_45 rfl rfl ?_
    refine ks_iload_n (n := 47) S dX5_cools_46 rfl rfl ?_
    refine ks_iconst (n := 48) S dX5_cools_47 rfl (by unfold iv; decide) ?_
    refine kf_s2i (n := 51) S dX5_cools_48 rfl ml_X5_48 ym_X5_ofD (ev_X5_ofD (by omega) (by omega)) (by decide) (Nat.le_of_ble_eq_true rfl) ?_
    refine ks_iaload (n := 52) S dX5_cools_51 rfl hr (by omega) ?_
    refine ks_iadd (n := 53) S dX5_cools_52 rfl (by omega) ?_
    refine ks_iret S dX5_cools_53 ?_
    exact rt_e (by unfold m_cl m_cools; (repeat' split) <;> omega)
  · skip
    refine ks_iconst (n := 43) S dX5_cools_42 rfl (by unfold iv; decide) ?_
    refine ks_iret S dX5_cools_43 ?_
    exact rt_e (by unfold m_cl m_cools; (repeat' split) <;> omega)
theorem ev_X5_heats {d v p : Int} (hr : kq_sh[r]? = some (.inl 75)) (hd : 0 ≤ d ∧ d < 9) : Ev l yX5_heats cX5_heats 4 none 1 21 [kr r, ki d, ki v, ki p] σ (Rt none (sr σ r (m_heats (σ r) d v p))) := by
  refine ev_intro ym_X5_heats.1 (Nat.le_of_ble_eq_true rfl) (fun hv hσ K S => ?_)
  have hv := hv
  show K 0 [some (kr r), some (ki d), some (ki v), some (ki p)] [] σ
  refine ks_aload_n (n := 1) S dX5_heats_0 rfl rfl ?_
  refine ks_iload_n (n := 2) S dX5_heats_1 rfl rfl ?_
  refine ks_iconst (n := 3) S dX5_heats_2 rfl (by unfold iv; decide) ?_
  refine kf_s2i (n := 6) S dX5_heats_3 rfl ml_X5_48 ym_X5_ofD (ev_X5_ofD (by omega) (by omega)) (by decide) (Nat.le_of_ble_eq_true rfl) ?_
  refine ks_iload_n (n := 7) S dX5_heats_6 rfl rfl ?_
  refine kf_s1i (n := 10) S dX5_heats_7 rfl ml_X5_52 ym_X5_held (ev_X5_held) (by decide) (Nat.le_of_ble_eq_true rfl) ?_
  refine ks_iastore (n := 11) S dX5_heats_10 rfl hr (by omega) ?_
  refine ks_aload_n (n := 12) S dX5_heats_11 rfl rfl ?_
  refine ks_iload_n (n := 13) S dX5_heats_12 rfl rfl ?_
  refine ks_iconst (n := 14) S dX5_heats_13 rfl (by unfold iv; decide) ?_
  refine kf_s2i (n := 17) S dX5_heats_14 rfl ml_X5_48 ym_X5_ofD (ev_X5_ofD (by omega) (by omega)) (by decide) (Nat.le_of_ble_eq_true rfl) ?_
  refine ks_iload_n (n := 18) S dX5_heats_17 rfl rfl ?_
  refine ks_if_le (n := 21) (tgt := 25) S dX5_heats_18 rfl rfl (fun h18 => ?_) (fun h18 => ?_)
  · skip
    refine ks_bipush (n := 27) S dX5_heats_25 rfl (by unfold iv; decide) ?_
    refine ks_iastore (n := 28) S dX5_heats_27 rfl hr (by omega) ?_
    refine ks_vret S dX5_heats_28 ?_
    refine ⟨rfl, ?_⟩
    rw [kq_up_sr, kq_up_sr, sr_sr, sr_r]
    unfold m_heats
    first | rw [if_pos (by omega)] | rw [if_neg (by omega)]
  · skip
    refine ks_iload_n (n := 22) S dX5_heats_21 rfl rfl ?_
    refine ks_goto (n := 27) S dX5_heats_22 rfl ?_
    refine ks_iastore (n := 28) S dX5_heats_27 rfl hr (by omega) ?_
    refine ks_vret S dX5_heats_28 ?_
    refine ⟨rfl, ?_⟩
    rw [kq_up_sr, kq_up_sr, sr_sr, sr_r]
    unfold m_heats
    first | rw [if_pos (by omega)] | rw [if_neg (by omega)]
theorem ev_X5_coolsTo {d v : Int} (hr : kq_sh[r]? = some (.inl 75)) (hd : 0 ≤ d ∧ d < 9) : Ev l yX5_coolsTo cX5_coolsTo 3 none 1 21 [kr r, ki d, ki v] σ (Rt none (sr σ r (m_to (σ r) d v))) := by
  refine ev_intro ym_X5_coolsTo.1 (Nat.le_of_ble_eq_true rfl) (fun hv hσ K S => ?_)
  have hv := hv
  show K 0 [some (kr r), some (ki d), some (ki v)] [] σ
  refine ks_aload_n (n := 1) S dX5_coolsTo_0 rfl rfl ?_
  refine ks_iload_n (n := 2) S dX5_coolsTo_1 rfl rfl ?_
  refine ks_iconst (n := 3) S dX5_coolsTo_2 rfl (by unfold iv; decide) ?_
  refine kf_s2i (n := 6) S dX5_coolsTo_3 rfl ml_X5_48 ym_X5_ofD (ev_X5_ofD (by omega) (by omega)) (by decide) (Nat.le_of_ble_eq_true rfl) ?_
  refine ks_iload_n (n := 7) S dX5_coolsTo_6 rfl rfl ?_
  refine kf_s1i (n := 10) S dX5_coolsTo_7 rfl ml_X5_52 ym_X5_held (ev_X5_held) (by decide) (Nat.le_of_ble_eq_true rfl) ?_
  refine ks_iastore (n := 11) S dX5_coolsTo_10 rfl hr (by omega) ?_
  refine ks_iload_n (n := 12) S dX5_coolsTo_11 rfl rfl ?_
  refine ks_if_gt (n := 15) (tgt := 24) S dX5_coolsTo_12 rfl rfl (fun h12 => ?_) (fun h12 => ?_)
  · skip
    refine ks_vret S dX5_coolsTo_24 ?_
    refine ⟨rfl, ?_⟩
    unfold m_to
    first | (rw [if_pos (by omega), kq_up_sr, kq_up_sr, sr_sr, sr_r]) | (rw [if_neg (by omega), kq_up_sr])
  · skip
    refine ks_aload_n (n := 16) S dX5_coolsTo_15 rfl rfl ?_
    refine ks_iload_n (n := 17) S dX5_coolsTo_16 rfl rfl ?_
    refine ks_iconst (n := 18) S dX5_coolsTo_17 rfl (by unfold iv; decide) ?_
    refine kf_s2i (n := 21) S dX5_coolsTo_18 rfl ml_X5_48 ym_X5_ofD (ev_X5_ofD (by omega) (by omega)) (by decide) (Nat.le_of_ble_eq_true rfl) ?_
    refine ks_bipush (n := 23) S dX5_coolsTo_21 rfl (by unfold iv; decide) ?_
    refine ks_iastore (n := 24) S dX5_coolsTo_23 rfl hr (by omega) ?_
    refine ks_vret S dX5_coolsTo_24 ?_
    refine ⟨rfl, ?_⟩
    unfold m_to
    first | (rw [if_pos (by omega), kq_up_sr, kq_up_sr, sr_sr, sr_r]) | (rw [if_neg (by omega), kq_up_sr])
theorem ev_X5_says {p : Int} (hr : kq_sh[r]? = some (.inl 75)) (hp : 0 ≤ p ∧ p < 6) (ht : 0 ≤ aP (σ r) p 0 ∧ aP (σ r) p 0 ≤ 9) (hm : 0 ≤ aP (σ r) p 2 ∧ aP (σ r) p 2 ≤ 99) : Ev l yX5_says cX5_says 2 (some .int) 1 21 [kr r, ki p] σ (Rt (some (ki (m_says (σ r) p))) σ) := by
  have e1 : aP (σ r) p 0 = σ r (57 + 3 * p + 0) := rfl
  have e0 : aP (σ r) p 2 = σ r (57 + 3 * p + 2) := rfl
  refine ev_intro ym_X5_says.1 (Nat.le_of_ble_eq_true rfl) (fun hv hσ K S => ?_)
  have hv := hv
  show K 0 [some (kr r), some (ki p)] [] σ
  refine ks_aload_n (n := 1) S dX5_says_0 rfl rfl ?_
  refine ks_iload_n (n := 2) S dX5_says_1 rfl rfl ?_
  refine ks_iconst (n := 3) S dX5_says_2 rfl (by unfold iv; decide) ?_
  refine kf_s2i (n := 6) S dX5_says_3 rfl ml_X5_55 ym_X5_ofP (ev_X5_ofP (by omega) (by omega)) (by decide) (Nat.le_of_ble_eq_true rfl) ?_
  refine ks_iaload (n := 7) S dX5_says_6 rfl hr (by omega) ?_
  refine ks_iconst (n := 8) S dX5_says_7 rfl (by unfold iv; decide) ?_
  refine ks_idiv (n := 9) S dX5_says_8 rfl (by omega) ?_
  refine ks_aload_n (n := 10) S dX5_says_9 rfl rfl ?_
  refine ks_iload_n (n := 11) S dX5_says_10 rfl rfl ?_
  refine ks_iconst (n := 12) S dX5_says_11 rfl (by unfold iv; decide) ?_
  refine kf_s2i (n := 15) S dX5_says_12 rfl ml_X5_55 ym_X5_ofP (ev_X5_ofP (by omega) (by omega)) (by decide) (Nat.le_of_ble_eq_true rfl) ?_
  refine ks_iaload (n := 16) S dX5_says_15 rfl hr (by omega) ?_
  refine ks_iadd (n := 17) S dX5_says_16 rfl (by omega) ?_
  refine ks_iret S dX5_says_17 ?_
  exact rt_r
theorem ev_X5_isOf {d o : Int} (hr : kq_sh[r]? = some (.inl 75)) (hd : 0 ≤ d ∧ d < 9) : Ev l yX5_isOf cX5_isOf 3 (some .boolean) 1 21 [kr r, ki d, ki o] σ (Rt (some (ki (bi (m_of (σ r) d o)))) σ) := by
  have e1 : aD (σ r) d 2 = σ r (3 + 6 * d + 2) := rfl
  have e0 : aD (σ r) d 3 = σ r (3 + 6 * d + 3) := rfl
  refine ev_intro ym_X5_isOf.1 (Nat.le_of_ble_eq_true rfl) (fun hv hσ K S => ?_)
  have hv := hv
  show K 0 [some (kr r), some (ki d), some (ki o)] [] σ
  refine ks_aload_n (n := 1) S dX5_isOf_0 rfl rfl ?_
  refine ks_iload_n (n := 2) S dX5_isOf_1 rfl rfl ?_
  refine ks_iconst (n := 3) S dX5_isOf_2 rfl (by unfold iv; decide) ?_
  refine kf_s2i (n := 6) S dX5_isOf_3 rfl ml_X5_48 ym_X5_ofD (ev_X5_ofD (by omega) (by omega)) (by decide) (Nat.le_of_ble_eq_true rfl) ?_
  refine ks_iaload (n := 7) S dX5_isOf_6 rfl hr (by omega) ?_
  refine ks_iload_n (n := 8) S dX5_isOf_7 rfl rfl ?_
  refine ks_icmp_eq (n := 11) (tgt := 22) S dX5_isOf_8 rfl rfl (fun h8 => ?_) (fun h8 => ?_)
  · skip
    refine ks_iconst (n := 23) S dX5_isOf_22 rfl (by unfold iv; decide) ?_
    refine ks_goto (n := 27) S dX5_isOf_23 rfl ?_
    refine ks_zret S dX5_isOf_27 (by first | exact Or.inl rfl | exact Or.inr rfl | exact bi_01) ?_
    first | exact rt_1 (by unfold m_of; omega) | exact rt_0 (by unfold m_of; omega)
  · skip
    refine ks_aload_n (n := 12) S dX5_isOf_11 rfl rfl ?_
    refine ks_iload_n (n := 13) S dX5_isOf_12 rfl rfl ?_
    refine ks_iconst (n := 14) S dX5_isOf_13 rfl (by unfold iv; decide) ?_
    refine kf_s2i (n := 17) S dX5_isOf_14 rfl ml_X5_48 ym_X5_ofD (ev_X5_ofD (by omega) (by omega)) (by decide) (Nat.le_of_ble_eq_true rfl) ?_
    refine ks_iaload (n := 18) S dX5_isOf_17 rfl hr (by omega) ?_
    refine ks_iload_n (n := 19) S dX5_isOf_18 rfl rfl ?_
    refine ks_icmp_ne (n := 22) (tgt := 26) S dX5_isOf_19 rfl rfl (fun h19 => ?_) (fun h19 => ?_)
    · skip
      refine ks_iconst (n := 27) S dX5_isOf_26 rfl (by unfold iv; decide) ?_
      refine ks_zret S dX5_isOf_27 (by first | exact Or.inl rfl | exact Or.inr rfl | exact bi_01) ?_
      first | exact rt_1 (by unfold m_of; omega) | exact rt_0 (by unfold m_of; omega)
    · skip
      refine ks_iconst (n := 23) S dX5_isOf_22 rfl (by unfold iv; decide) ?_
      refine ks_goto (n := 27) S dX5_isOf_23 rfl ?_
      refine ks_zret S dX5_isOf_27 (by first | exact Or.inl rfl | exact Or.inr rfl | exact bi_01) ?_
      first | exact rt_1 (by unfold m_of; omega) | exact rt_0 (by unfold m_of; omega)
theorem ev_X5_beyond {d o : Int} (hr : kq_sh[r]? = some (.inl 75)) (hd : 0 ≤ d ∧ d < 9) (h2 : 0 ≤ aD (σ r) d 2 ∧ aD (σ r) d 2 ≤ 6) (h3 : 0 ≤ aD (σ r) d 3 ∧ aD (σ r) d 3 ≤ 6) (ho : 0 ≤ o ∧ o ≤ 6) : Ev l yX5_beyond cX5_beyond 3 (some .int) 1 21 [kr r, ki d, ki o] σ (Rt (some (ki (m_by (σ r) d o))) σ) := by
  have e1 : aD (σ r) d 2 = σ r (3 + 6 * d + 2) := rfl
  have e0 : aD (σ r) d 3 = σ r (3 + 6 * d + 3) := rfl
  refine ev_intro ym_X5_beyond.1 (Nat.le_of_ble_eq_true rfl) (fun hv hσ K S => ?_)
  have hv := hv
  show K 0 [some (kr r), some (ki d), some (ki o)] [] σ
  refine ks_aload_n (n := 1) S dX5_beyond_0 rfl rfl ?_
  refine ks_iload_n (n := 2) S dX5_beyond_1 rfl rfl ?_
  refine ks_iconst (n := 3) S dX5_beyond_2 rfl (by unfold iv; decide) ?_
  refine kf_s2i (n := 6) S dX5_beyond_3 rfl ml_X5_48 ym_X5_ofD (ev_X5_ofD (by omega) (by omega)) (by decide) (Nat.le_of_ble_eq_true rfl) ?_
  refine ks_iaload (n := 7) S dX5_beyond_6 rfl hr (by omega) ?_
  refine ks_aload_n (n := 8) S dX5_beyond_7 rfl rfl ?_
  refine ks_iload_n (n := 9) S dX5_beyond_8 rfl rfl ?_
  refine ks_iconst (n := 10) S dX5_beyond_9 rfl (by unfold iv; decide) ?_
  refine kf_s2i (n := 13) S dX5_beyond_10 rfl ml_X5_48 ym_X5_ofD (ev_X5_ofD (by omega) (by omega)) (by decide) (Nat.le_of_ble_eq_true rfl) ?_
  refine ks_iaload (n := 14) S dX5_beyond_13 rfl hr (by omega) ?_
  refine ks_iadd (n := 15) S dX5_beyond_14 rfl (by omega) ?_
  refine ks_iload_n (n := 16) S dX5_beyond_15 rfl rfl ?_
  refine ks_isub (n := 17) S dX5_beyond_16 rfl (by omega) ?_
  refine ks_iret S dX5_beyond_17 ?_
  exact rt_r
theorem ev_X5_opensIn {p d : Int} (hr : kq_sh[r]? = some (.inl 75)) (ok : OkR (σ r)) (hp : 0 ≤ p ∧ p < σ r 1) (hd : 0 ≤ d ∧ d < σ r 0) : Ev l yX5_opensIn cX5_opensIn 3 none 2 44 [kr r, ki p, ki d] σ (Rt none (sr σ r (m_open (σ r) p d))) := by
  have h9 := ok.1
  have h6 := ok.2.1
  obtain ⟨o1, o2, o3, o4, o5, o6, o7, o8⟩ := ok.2.2.2.1 d hd.1 hd.2
  obtain ⟨q1, q2, q3⟩ := ok.2.2.2.2 p hp.1 hp.2
  have hg : 0 ≤ m_gv (σ r) d ∧ m_gv (σ r) d ≤ 108 := m_gives_b (k := aD (σ r) d 0) o2 o6
  have em : aP (σ r) p 2 = σ r (57 + 3 * p + 2) := rfl
  have K1 := m_o1_ok (d := d) ok hp.1
  have z1 := m_o1_01 (a := σ r) (d := d) hp.1
  obtain ⟨t1, t2, t3, t4, t5, t6, t7, t8⟩ := K1.2.2.2.1 d hd.1 (by omega)
  obtain ⟨u1, u2, u3⟩ := K1.2.2.2.2 p hp.1 (by omega)
  have hsy : 0 ≤ m_says (m_o1 (σ r) p d) p ∧ m_says (m_o1 (σ r) p d) p ≤ 99 := by unfold m_says; omega
  have K2 := m_o2_ok ok hp hd
  have z2 := m_o2_01 (a := σ r) (p := p) (d := d) hp.1 hd.1
  obtain ⟨w1, w2, w3, w4, w5, w6, w7, w8⟩ := K2.2.2.2.1 d hd.1 (by omega)
  obtain ⟨y1, y2, y3⟩ := K2.2.2.2.2 p hp.1 (by omega)
  have g5 : aP (m_o3 (σ r) p d) p 2 = aP (m_o1 (σ r) p d) p 2 := by unfold aP m_o3 m_o2 m_heats; rw [ru_n (by omega), ru_n (by omega), ru_n (by omega)]
  refine ev_intro ym_X5_opensIn.1 (Nat.le_of_ble_eq_true rfl) (fun hv hσ K S => ?_)
  have hv := hv
  show K 0 [some (kr r), some (ki p), some (ki d)] [] σ
  refine ks_aload_n (n := 1) S dX5_opensIn_0 rfl rfl ?_
  refine ks_iload_n (n := 2) S dX5_opensIn_1 rfl rfl ?_
  refine ks_iconst (n := 3) S dX5_opensIn_2 rfl (by unfold iv; decide) ?_
  refine kf_s2i (n := 6) S dX5_opensIn_3 rfl ml_X5_55 ym_X5_ofP (ev_X5_ofP (by omega) (by omega)) (by decide) (Nat.le_of_ble_eq_true rfl) ?_
  refine ks_aload_n (n := 7) S dX5_opensIn_6 rfl rfl ?_
  refine ks_iload_n (n := 8) S dX5_opensIn_7 rfl rfl ?_
  refine ks_iconst (n := 9) S dX5_opensIn_8 rfl (by unfold iv; decide) ?_
  refine kf_s2i (n := 12) S dX5_opensIn_9 rfl ml_X5_55 ym_X5_ofP (ev_X5_ofP (by omega) (by omega)) (by decide) (Nat.le_of_ble_eq_true rfl) ?_
  refine ks_iaload (n := 13) S dX5_opensIn_12 rfl hr (by omega) ?_
  refine ks_aload_n (n := 14) S dX5_opensIn_13 rfl rfl ?_
  refine ks_iload_n (n := 15) S dX5_opensIn_14 rfl rfl ?_
  refine kf_s2i (n := 18) S dX5_opensIn_15 rfl ml_X5_58 ym_X5_gives (ev_X5_gives hr (by omega) o2 o6) (by decide) (Nat.le_of_ble_eq_true rfl) ?_
  refine ks_iadd (n := 19) S dX5_opensIn_18 rfl (by omega) ?_
  refine kf_s1i (n := 22) S dX5_opensIn_19 rfl ml_X5_52 ym_X5_held (ev_X5_held) (by decide) (Nat.le_of_ble_eq_true rfl) ?_
  refine ks_iastore (n := 23) S dX5_opensIn_22 rfl hr (by omega) ?_
  rw [kq_up_sr]
  obtain ⟨ρ, hρ⟩ : ∃ z, z = sr σ r (m_o1 (σ r) p d) := ⟨_, rfl⟩
  have hρr : ρ r = m_o1 (σ r) p d := by rw [hρ, sr_r]
  refine ek_v (P := fun z => K 23 [some (kr r), some (ki p), some (ki d)] [] z) (show _ = ρ from hρ.symm) ?_
  refine ks_aload_n (n := 24) S dX5_opensIn_23 rfl rfl ?_
  refine ks_iload_n (n := 25) S dX5_opensIn_24 rfl rfl ?_
  refine ks_aload_n (n := 26) S dX5_opensIn_25 rfl rfl ?_
  refine ks_iload_n (n := 27) S dX5_opensIn_26 rfl rfl ?_
  refine ks_aload_n (n := 28) S dX5_opensIn_27 rfl rfl ?_
  refine ks_iload_n (n := 29) S dX5_opensIn_28 rfl rfl ?_
  refine kf_s2i (n := 32) S dX5_opensIn_29 rfl ml_X5_62 ym_X5_says (ev_X5_says hr (by omega) (by rw [hρr]; exact u1) (by rw [hρr]; exact u3)) (by decide) (Nat.le_of_ble_eq_true rfl) ?_
  refine kf_s3i (n := 35) S dX5_opensIn_32 rfl ml_X5_65 ym_X5_keeps (ev_X5_keeps hr (by omega) (by rw [hρr]; exact t2) (by rw [hρr]; omega)) (by decide) (Nat.le_of_ble_eq_true rfl) ?_
  refine ks_iload_n (n := 36) S dX5_opensIn_35 rfl rfl ?_
  refine kf_s4v (n := 39) S dX5_opensIn_36 rfl ml_X5_69 ym_X5_heats (ev_X5_heats hr (by omega)) (by decide) (Nat.le_of_ble_eq_true rfl) ?_
  obtain ⟨ρ2, hρ2⟩ : ∃ z, z = sr σ r (m_o2 (σ r) p d) := ⟨_, rfl⟩
  have hρr2 : ρ2 r = m_o2 (σ r) p d := by rw [hρ2, sr_r]
  have e2 : aP (m_o2 (σ r) p d) p 1 = ρ2 r (57 + 3 * p + 1) := by rw [hρr2]; rfl
  refine ek_v (P := fun z => K 39 [some (kr r), some (ki p), some (ki d)] [] z) (show _ = ρ2 by rw [hρr, hρ, sr_sr, hρ2]; rfl) ?_
  refine ks_aload_n (n := 40) S dX5_opensIn_39 rfl rfl ?_
  refine ks_iload_n (n := 41) S dX5_opensIn_40 rfl rfl ?_
  refine ks_iconst (n := 42) S dX5_opensIn_41 rfl (by unfold iv; decide) ?_
  refine kf_s2i (n := 45) S dX5_opensIn_42 rfl ml_X5_55 ym_X5_ofP (ev_X5_ofP (by omega) (by omega)) (by decide) (Nat.le_of_ble_eq_true rfl) ?_
  refine ks_aload_n (n := 46) S dX5_opensIn_45 rfl rfl ?_
  refine ks_iload_n (n := 47) S dX5_opensIn_46 rfl rfl ?_
  refine ks_aload_n (n := 48) S dX5_opensIn_47 rfl rfl ?_
  refine ks_iload_n (n := 49) S dX5_opensIn_48 rfl rfl ?_
  refine ks_iconst (n := 50) S dX5_opensIn_49 rfl (by unfold iv; decide) ?_
  refine kf_s2i (n := 53) S dX5_opensIn_50 rfl ml_X5_55 ym_X5_ofP (ev_X5_ofP (by omega) (by omega)) (by decide) (Nat.le_of_ble_eq_true rfl) ?_
  refine ks_iaload (n := 54) S dX5_opensIn_53 rfl hr (by omega) ?_
  refine kf_s3i (n := 57) S dX5_opensIn_54 rfl ml_X5_73 ym_X5_beyond (ev_X5_beyond hr (by omega) (by rw [hρr2]; exact w3) (by rw [hρr2]; exact w4) (by omega)) (by decide) (Nat.le_of_ble_eq_true rfl) ?_
  refine ks_iastore (n := 58) S dX5_opensIn_57 rfl hr (by omega) ?_
  obtain ⟨ρ3, hρ3⟩ : ∃ z, z = sr σ r (m_o3 (σ r) p d) := ⟨_, rfl⟩
  have hρr3 : ρ3 r = m_o3 (σ r) p d := by rw [hρ3, sr_r]
  have e3 : aP (m_o3 (σ r) p d) p 2 = ρ3 r (57 + 3 * p + 2) := by rw [hρr3]; rfl
  refine ek_v (P := fun z => K 58 [some (kr r), some (ki p), some (ki d)] [] z) (show _ = ρ3 by rw [kq_up_sr, hρr2, hρ2, sr_sr, hρ3]; rfl) ?_
  refine ks_aload_n (n := 59) S dX5_opensIn_58 rfl rfl ?_
  refine ks_iload_n (n := 60) S dX5_opensIn_59 rfl rfl ?_
  refine ks_iconst (n := 61) S dX5_opensIn_60 rfl (by unfold iv; decide) ?_
  refine kf_s2i (n := 64) S dX5_opensIn_61 rfl ml_X5_55 ym_X5_ofP (ev_X5_ofP (by omega) (by omega)) (by decide) (Nat.le_of_ble_eq_true rfl) ?_
  refine ks_aload_n (n := 65) S dX5_opensIn_64 rfl rfl ?_
  refine ks_iload_n (n := 66) S dX5_opensIn_65 rfl rfl ?_
  refine ks_iconst (n := 67) S dX5_opensIn_66 rfl (by unfold iv; decide) ?_
  refine kf_s2i (n := 70) S dX5_opensIn_67 rfl ml_X5_55 ym_X5_ofP (ev_X5_ofP (by omega) (by omega)) (by decide) (Nat.le_of_ble_eq_true rfl) ?_
  refine ks_iaload (n := 71) S dX5_opensIn_70 rfl hr (by omega) ?_
  refine ks_iconst (n := 72) S dX5_opensIn_71 rfl (by unfold iv; decide) ?_
  refine ks_isub (n := 73) S dX5_opensIn_72 rfl (by omega) ?_
  refine kf_s1i (n := 76) S dX5_opensIn_73 rfl ml_X5_52 ym_X5_held (ev_X5_held) (by decide) (Nat.le_of_ble_eq_true rfl) ?_
  refine ks_iastore (n := 77) S dX5_opensIn_76 rfl hr (by omega) ?_
  refine ks_vret S dX5_opensIn_77 ?_
  refine ⟨rfl, ?_⟩
  rw [kq_up_sr, hρr3, hρ3, sr_sr]
  rfl
end REF1

