section HOUSE
variable {l : Launch} {σ : KS} {c : Nat} {a : RW}
theorem kq_for {α : Type} (e : Int) (I G : Int → α → Prop) (h : ∀ i s, i ≤ e → I i s → (∀ s', i < e → I (i + 1) s' → G (i + 1) s') → G i s) : ∀ i s, i ≤ e → I i s → G i s := by
  have key : ∀ (n : Nat) (i : Int) (s : α), (e - i).toNat = n → i ≤ e → I i s → G i s := by
    intro n
    induction n with
    | zero => intro i s hn hi hI; exact h i s hi hI (fun s' h1 _ => by omega)
    | succ k ih => intro i s hn hi hI; exact h i s hi hI (fun s' h1 h2 => ih (i + 1) s' (by omega) (by omega) h2)
  exact fun i s hi hI => key _ i s rfl hi hI
theorem m_sum_succ {f : Int → Int} {i : Int} (h : 0 ≤ i) : m_sum f (i + 1).toNat = m_sum f i.toNat + f i := by
  obtain ⟨n, rfl⟩ := Int.eq_ofNat_of_zero_le h
  rfl
theorem ev_X0_hasDoor {d : Int} (hH : kq_H c) (hR : RepH σ c a) : Ev l yX0_hasDoor cX0_hasDoor 2 (some .boolean) 0 0 [kr c, ki d] σ (Rt (some (ki (bi (0 ≤ d ∧ d < a 0)))) σ) := by
  have h0 := hR.1
  refine ev_intro ym_X0_hasDoor.1 (Nat.le_of_ble_eq_true rfl) (fun hv hσ K S => ?_)
  have hv := hv
  show K 0 [some (kr c), some (ki d)] [] σ
  refine ks_iload_n (n := 1) S dX0_hasDoor_0 rfl rfl ?_
  refine ks_if_lt (n := 4) (tgt := 16) S dX0_hasDoor_1 rfl rfl (fun h1 => ?_) (fun h1 => ?_)
  · skip
    refine ks_iconst (n := 17) S dX0_hasDoor_16 rfl (by unfold iv; decide) ?_
    refine ks_zret S dX0_hasDoor_17 (by first | exact Or.inl rfl | exact Or.inr rfl | exact bi_01) ?_
    first | exact rt_1 (by omega) | exact rt_0 (by omega)
  · skip
    refine ks_iload_n (n := 5) S dX0_hasDoor_4 rfl rfl ?_
    refine ks_aload_n (n := 6) S dX0_hasDoor_5 rfl rfl ?_
    refine ks_getI (n := 9) (fi := 0) S dX0_hasDoor_6 rfl fl_X0_9 hH.o rfl rfl ?_
    refine ks_icmp_ge (n := 12) (tgt := 16) S dX0_hasDoor_9 rfl rfl (fun h9 => ?_) (fun h9 => ?_)
    · skip
      refine ks_iconst (n := 17) S dX0_hasDoor_16 rfl (by unfold iv; decide) ?_
      refine ks_zret S dX0_hasDoor_17 (by first | exact Or.inl rfl | exact Or.inr rfl | exact bi_01) ?_
      first | exact rt_1 (by omega) | exact rt_0 (by omega)
    · skip
      refine ks_iconst (n := 13) S dX0_hasDoor_12 rfl (by unfold iv; decide) ?_
      refine ks_goto (n := 17) S dX0_hasDoor_13 rfl ?_
      refine ks_zret S dX0_hasDoor_17 (by first | exact Or.inl rfl | exact Or.inr rfl | exact bi_01) ?_
      first | exact rt_1 (by omega) | exact rt_0 (by omega)
theorem ev_X0_hasPerson {p : Int} (hH : kq_H c) (hR : RepH σ c a) : Ev l yX0_hasPerson cX0_hasPerson 2 (some .boolean) 0 0 [kr c, ki p] σ (Rt (some (ki (bi (0 ≤ p ∧ p < a 1)))) σ) := by
  have h0 : σ c 7 = a 1 := hR.2.1
  refine ev_intro ym_X0_hasPerson.1 (Nat.le_of_ble_eq_true rfl) (fun hv hσ K S => ?_)
  have hv := hv
  show K 0 [some (kr c), some (ki p)] [] σ
  refine ks_iload_n (n := 1) S dX0_hasPerson_0 rfl rfl ?_
  refine ks_if_lt (n := 4) (tgt := 16) S dX0_hasPerson_1 rfl rfl (fun h1 => ?_) (fun h1 => ?_)
  · skip
    refine ks_iconst (n := 17) S dX0_hasPerson_16 rfl (by unfold iv; decide) ?_
    refine ks_zret S dX0_hasPerson_17 (by first | exact Or.inl rfl | exact Or.inr rfl | exact bi_01) ?_
    first | exact rt_1 (by omega) | exact rt_0 (by omega)
  · skip
    refine ks_iload_n (n := 5) S dX0_hasPerson_4 rfl rfl ?_
    refine ks_aload_n (n := 6) S dX0_hasPerson_5 rfl rfl ?_
    refine ks_getI (n := 9) (fi := 7) S dX0_hasPerson_6 rfl fl_X0_34 hH.o rfl rfl ?_
    refine ks_icmp_ge (n := 12) (tgt := 16) S dX0_hasPerson_9 rfl rfl (fun h9 => ?_) (fun h9 => ?_)
    · skip
      refine ks_iconst (n := 17) S dX0_hasPerson_16 rfl (by unfold iv; decide) ?_
      refine ks_zret S dX0_hasPerson_17 (by first | exact Or.inl rfl | exact Or.inr rfl | exact bi_01) ?_
      first | exact rt_1 (by omega) | exact rt_0 (by omega)
    · skip
      refine ks_iconst (n := 13) S dX0_hasPerson_12 rfl (by unfold iv; decide) ?_
      refine ks_goto (n := 17) S dX0_hasPerson_13 rfl ?_
      refine ks_zret S dX0_hasPerson_17 (by first | exact Or.inl rfl | exact Or.inr rfl | exact bi_01) ?_
      first | exact rt_1 (by omega) | exact rt_0 (by omega)
theorem ev_X0_leadsFrom {d r : Int} (hH : kq_H c) (hR : RepH σ c a) (ok : OkR a) (hd : 0 ≤ d ∧ d < a 0) : Ev l yX0_leadsFrom cX0_leadsFrom 3 (some .boolean) 0 0 [kr c, ki d, ki r] σ (Rt (some (ki (bi (m_of a d r)))) σ) := by
  have hn := ok.1
  obtain ⟨e1, e2, e3, e4, e5, e6⟩ := hR.2.2.2.1 d hd.1 hd.2
  refine ev_intro ym_X0_leadsFrom.1 (Nat.le_of_ble_eq_true rfl) (fun hv hσ K S => ?_)
  have hv := hv
  show K 0 [some (kr c), some (ki d), some (ki r)] [] σ
  refine ks_aload_n (n := 1) S dX0_leadsFrom_0 rfl rfl ?_
  refine ks_getr (n := 4) S dX0_leadsFrom_1 rfl fl_X0_22 hH.o rfl ?_
  refine ks_iload_n (n := 5) S dX0_leadsFrom_4 rfl rfl ?_
  refine ks_iaload (n := 6) S dX0_leadsFrom_5 rfl hH.a3 (by omega) ?_
  refine ks_iload_n (n := 7) S dX0_leadsFrom_6 rfl rfl ?_
  refine ks_icmp_eq (n := 10) (tgt := 20) S dX0_leadsFrom_7 rfl rfl (fun h7 => ?_) (fun h7 => ?_)
  · skip
    refine ks_iconst (n := 21) S dX0_leadsFrom_20 rfl (by unfold iv; decide) ?_
    refine ks_goto (n := 25) S dX0_leadsFrom_21 rfl ?_
    refine ks_zret S dX0_leadsFrom_25 (by first | exact Or.inl rfl | exact Or.inr rfl | exact bi_01) ?_
    first | exact rt_1 (by unfold m_of; omega) | exact rt_0 (by unfold m_of; omega)
  · skip
    refine ks_aload_n (n := 11) S dX0_leadsFrom_10 rfl rfl ?_
    refine ks_getr (n := 14) S dX0_leadsFrom_11 rfl fl_X0_25 hH.o rfl ?_
    refine ks_iload_n (n := 15) S dX0_leadsFrom_14 rfl rfl ?_
    refine ks_iaload (n := 16) S dX0_leadsFrom_15 rfl hH.a4 (by omega) ?_
    refine ks_iload_n (n := 17) S dX0_leadsFrom_16 rfl rfl ?_
    refine ks_icmp_ne (n := 20) (tgt := 24) S dX0_leadsFrom_17 rfl rfl (fun h17 => ?_) (fun h17 => ?_)
    · skip
      refine ks_iconst (n := 25) S dX0_leadsFrom_24 rfl (by unfold iv; decide) ?_
      refine ks_zret S dX0_leadsFrom_25 (by first | exact Or.inl rfl | exact Or.inr rfl | exact bi_01) ?_
      first | exact rt_1 (by unfold m_of; omega) | exact rt_0 (by unfold m_of; omega)
    · skip
      refine ks_iconst (n := 21) S dX0_leadsFrom_20 rfl (by unfold iv; decide) ?_
      refine ks_goto (n := 25) S dX0_leadsFrom_21 rfl ?_
      refine ks_zret S dX0_leadsFrom_25 (by first | exact Or.inl rfl | exact Or.inr rfl | exact bi_01) ?_
      first | exact rt_1 (by unfold m_of; omega) | exact rt_0 (by unfold m_of; omega)
theorem ev_X0_beyond {d r : Int} (hH : kq_H c) (hR : RepH σ c a) (ok : OkR a) (hd : 0 ≤ d ∧ d < a 0) : Ev l yX0_beyond cX0_beyond 3 (some .int) 0 0 [kr c, ki d, ki r] σ (Rt (some (ki (if aD a d 2 = r then aD a d 3 else aD a d 2))) σ) := by
  have hn := ok.1
  obtain ⟨e1, e2, e3, e4, e5, e6⟩ := hR.2.2.2.1 d hd.1 hd.2
  refine ev_intro ym_X0_beyond.1 (Nat.le_of_ble_eq_true rfl) (fun hv hσ K S => ?_)
  have hv := hv
  show K 0 [some (kr c), some (ki d), some (ki r)] [] σ
  refine ks_aload_n (n := 1) S dX0_beyond_0 rfl rfl ?_
  refine ks_getr (n := 4) S dX0_beyond_1 rfl fl_X0_22 hH.o rfl ?_
  refine ks_iload_n (n := 5) S dX0_beyond_4 rfl rfl ?_
  refine ks_iaload (n := 6) S dX0_beyond_5 rfl hH.a3 (by omega) ?_
  refine ks_iload_n (n := 7) S dX0_beyond_6 rfl rfl ?_
  refine ks_icmp_ne (n := 10) (tgt := 19) S dX0_beyond_7 rfl rfl (fun h7 => ?_) (fun h7 => ?_)
  · skip
    refine ks_aload_n (n := 20) S dX0_beyond_19 rfl rfl ?_
    refine ks_getr (n := 23) S dX0_beyond_20 rfl fl_X0_22 hH.o rfl ?_
    refine ks_iload_n (n := 24) S dX0_beyond_23 rfl rfl ?_
    refine ks_iaload (n := 25) S dX0_beyond_24 rfl hH.a3 (by omega) ?_
    refine ks_iret S dX0_beyond_25 ?_
    exact rt_e (by split <;> omega)
  · skip
    refine ks_aload_n (n := 11) S dX0_beyond_10 rfl rfl ?_
    refine ks_getr (n := 14) S dX0_beyond_11 rfl fl_X0_25 hH.o rfl ?_
    refine ks_iload_n (n := 15) S dX0_beyond_14 rfl rfl ?_
    refine ks_iaload (n := 16) S dX0_beyond_15 rfl hH.a4 (by omega) ?_
    refine ks_goto (n := 25) S dX0_beyond_16 rfl ?_
    refine ks_iret S dX0_beyond_25 ?_
    exact rt_e (by split <;> omega)
theorem ev_X0_canOpen {p d : Int} (hH : kq_H c) (hR : RepH σ c a) (ok : OkR a) (hp : 0 ≤ p ∧ p < a 1) (hd : 0 ≤ d ∧ d < a 0) : Ev l yX0_canOpen cX0_canOpen 3 (some .boolean) 1 22 [kr c, ki p, ki d] σ (Rt (some (ki (bi (m_of a d (aP a p 1))))) σ) := by
  have hn := ok.2.1
  obtain ⟨e1, e2, e3⟩ := hR.2.2.2.2 p hp.1 hp.2
  rw [← e2]
  refine ev_intro ym_X0_canOpen.1 (Nat.le_of_ble_eq_true rfl) (fun hv hσ K S => ?_)
  have hv := hv
  show K 0 [some (kr c), some (ki p), some (ki d)] [] σ
  refine ks_aload_n (n := 1) S dX0_canOpen_0 rfl rfl ?_
  refine ks_iload_n (n := 2) S dX0_canOpen_1 rfl rfl ?_
  refine ks_aload_n (n := 3) S dX0_canOpen_2 rfl rfl ?_
  refine ks_getr (n := 6) S dX0_canOpen_3 rfl fl_X0_40 hH.o rfl ?_
  refine ks_iload_n (n := 7) S dX0_canOpen_6 rfl rfl ?_
  refine ks_iaload (n := 8) S dX0_canOpen_7 rfl hH.a8 (by omega) ?_
  refine kf_v2z (n := 11) S dX0_canOpen_8 rfl ml_X0_53 ym_X0_leadsFrom (ev_X0_leadsFrom hH hR ok hd) (by decide) hH.o (Nat.le_of_ble_eq_true rfl) ?_
  refine ks_zret S dX0_canOpen_11 (by first | exact Or.inl rfl | exact Or.inr rfl | exact bi_01) ?_
  exact rt_r
theorem ev_X0_given {d : Int} (hH : kq_H c) (hR : RepH σ c a) (ok : OkR a) (hd : 0 ≤ d ∧ d < a 0) : Ev l yX0_given cX0_given 2 (some .int) 2 43 [kr c, ki d] σ (Rt (some (ki (m_gv a d))) σ) := by
  have hn := ok.1
  obtain ⟨o1, o2, o3, o4, o5, o6, o7, o8⟩ := ok.2.2.2.1 d hd.1 hd.2
  obtain ⟨e1, e2, e3, e4, e5, e6⟩ := hR.2.2.2.1 d hd.1 hd.2
  refine ev_intro ym_X0_given.1 (Nat.le_of_ble_eq_true rfl) (fun hv hσ K S => ?_)
  have hv := hv
  show K 0 [some (kr c), some (ki d)] [] σ
  refine ks_aload_n (n := 1) S dX0_given_0 rfl rfl ?_
  refine ks_getr (n := 4) S dX0_given_1 rfl fl_X0_15 hH.o rfl ?_
  refine ks_iload_n (n := 5) S dX0_given_4 rfl rfl ?_
  refine ks_iaload (n := 6) S dX0_given_5 rfl hH.a1 (by omega) ?_
  refine ks_aload_n (n := 7) S dX0_given_6 rfl rfl ?_
  refine ks_getr (n := 10) S dX0_given_7 rfl fl_X0_19 hH.o rfl ?_
  refine ks_iload_n (n := 11) S dX0_given_10 rfl rfl ?_
  refine ks_iaload (n := 12) S dX0_given_11 rfl hH.a2 (by omega) ?_
  refine ks_aload_n (n := 13) S dX0_given_12 rfl rfl ?_
  refine ks_getr (n := 16) S dX0_given_13 rfl fl_X0_28 hH.o rfl ?_
  refine ks_iload_n (n := 17) S dX0_given_16 rfl rfl ?_
  refine ks_iaload (n := 18) S dX0_given_17 rfl hH.a5 (by omega) ?_
  refine kf_s3i (n := 21) S dX0_given_18 rfl ml_X0_57 ym_X1_gives (ev_X1_gives (by omega) (by omega)) (by decide) (Nat.le_of_ble_eq_true rfl) ?_
  refine ks_iret S dX0_given_21 ?_
  exact rt_e (by unfold m_gv; rw [e1, e2, e5])
theorem ev_X0_givenAfter {d n : Int} (hH : kq_H c) (hR : RepH σ c a) (ok : OkR a) (hd : 0 ≤ d ∧ d < a 0) (hn : 0 ≤ n ∧ n ≤ 60) : Ev l yX0_givenAfter cX0_givenAfter 4 (some .int) 2 44 [kr c, ki d, ki n] σ (Rt (some (ki (m_gives (aD a d 0) (aD a d 1) (m_mx 0 (aD a d 4 - n * m_cl a d))))) σ) := by
  have hn0 := ok.1
  obtain ⟨o1, o2, o3, o4, o5, o6, o7, o8⟩ := ok.2.2.2.1 d hd.1 hd.2
  obtain ⟨e1, e2, e3, e4, e5, e6⟩ := hR.2.2.2.1 d hd.1 hd.2
  have hc0 := m_cools_b (k := aD a d 0) o2
  have hp : 0 ≤ n * m_cl a d := Int.mul_nonneg hn.1 hc0.1
  have hmx : 0 ≤ m_mx 0 (aD a d 4 - n * m_cl a d) ∧ m_mx 0 (aD a d 4 - n * m_cl a d) ≤ 99 := by unfold m_mx; split <;> omega
  unfold m_cl at hmx ⊢
  rw [← e1, ← e2, ← e5] at hmx ⊢
  refine ev_intro ym_X0_givenAfter.1 (Nat.le_of_ble_eq_true rfl) (fun hv hσ K S => ?_)
  have hv := hv
  show K 0 [some (kr c), some (ki d), some (ki n), none] [] σ
  refine ks_aload_n (n := 1) S dX0_givenAfter_0 rfl rfl ?_
  refine ks_getr (n := 4) S dX0_givenAfter_1 rfl fl_X0_15 hH.o rfl ?_
  refine ks_iload_n (n := 5) S dX0_givenAfter_4 rfl rfl ?_
  refine ks_iaload (n := 6) S dX0_givenAfter_5 rfl hH.a1 (by omega) ?_
  refine ks_aload_n (n := 7) S dX0_givenAfter_6 rfl rfl ?_
  refine ks_getr (n := 10) S dX0_givenAfter_7 rfl fl_X0_19 hH.o rfl ?_
  refine ks_iload_n (n := 11) S dX0_givenAfter_10 rfl rfl ?_
  refine ks_iaload (n := 12) S dX0_givenAfter_11 rfl hH.a2 (by omega) ?_
  refine ks_aload_n (n := 13) S dX0_givenAfter_12 rfl rfl ?_
  refine ks_getr (n := 16) S dX0_givenAfter_13 rfl fl_X0_28 hH.o rfl ?_
  refine ks_iload_n (n := 17) S dX0_givenAfter_16 rfl rfl ?_
  refine ks_iaload (n := 18) S dX0_givenAfter_17 rfl hH.a5 (by omega) ?_
  refine ks_iload_n (n := 19) S dX0_givenAfter_18 rfl rfl ?_
  refine kf_s4i (n := 22) S dX0_givenAfter_19 rfl ml_X0_63 ym_X1_cooled (ev_X1_cooled (by omega) (by omega) hn) (by decide) (Nat.le_of_ble_eq_true rfl) ?_
  refine ks_istore_n (n := 23) S dX0_givenAfter_22 rfl rfl (L' := fun y => [some (kr c), some (ki d), some (ki n), some (ki y)]) (Nat.le_of_ble_eq_true rfl) (fun _ => rfl) (fun v3_22 hv22 => ?_)
  subst hv22
  refine ks_aload_n (n := 24) S dX0_givenAfter_23 rfl rfl ?_
  refine ks_getr (n := 27) S dX0_givenAfter_24 rfl fl_X0_15 hH.o rfl ?_
  refine ks_iload_n (n := 28) S dX0_givenAfter_27 rfl rfl ?_
  refine ks_iaload (n := 29) S dX0_givenAfter_28 rfl hH.a1 (by omega) ?_
  refine ks_aload_n (n := 30) S dX0_givenAfter_29 rfl rfl ?_
  refine ks_getr (n := 33) S dX0_givenAfter_30 rfl fl_X0_19 hH.o rfl ?_
  refine ks_iload_n (n := 34) S dX0_givenAfter_33 rfl rfl ?_
  refine ks_iaload (n := 35) S dX0_givenAfter_34 rfl hH.a2 (by omega) ?_
  refine ks_iload_n (n := 36) S dX0_givenAfter_35 rfl rfl ?_
  refine kf_s3i (n := 39) S dX0_givenAfter_36 rfl ml_X0_57 ym_X1_gives (ev_X1_gives (by omega) hmx) (by decide) (Nat.le_of_ble_eq_true rfl) ?_
  refine ks_iret S dX0_givenAfter_39 ?_
  exact rt_r
theorem ev_X0_said {p : Int} (hH : kq_H c) (hR : RepH σ c a) (ok : OkR a) (hp : 0 ≤ p ∧ p < a 1) : Ev l yX0_said cX0_said 2 (some .int) 0 0 [kr c, ki p] σ (Rt (some (ki (m_says a p))) σ) := by
  have hn := ok.2.1
  obtain ⟨o1, o2, o3⟩ := ok.2.2.2.2 p hp.1 hp.2
  obtain ⟨e1, e2, e3⟩ := hR.2.2.2.2 p hp.1 hp.2
  refine ev_intro ym_X0_said.1 (Nat.le_of_ble_eq_true rfl) (fun hv hσ K S => ?_)
  have hv := hv
  show K 0 [some (kr c), some (ki p)] [] σ
  refine ks_aload_n (n := 1) S dX0_said_0 rfl rfl ?_
  refine ks_getr (n := 4) S dX0_said_1 rfl fl_X0_43 hH.o rfl ?_
  refine ks_iload_n (n := 5) S dX0_said_4 rfl rfl ?_
  refine ks_iaload (n := 6) S dX0_said_5 rfl hH.a9 (by omega) ?_
  refine ks_iconst (n := 7) S dX0_said_6 rfl (by unfold iv; decide) ?_
  refine ks_idiv (n := 8) S dX0_said_7 rfl (by omega) ?_
  refine ks_aload_n (n := 9) S dX0_said_8 rfl rfl ?_
  refine ks_getr (n := 12) S dX0_said_9 rfl fl_X0_37 hH.o rfl ?_
  refine ks_iload_n (n := 13) S dX0_said_12 rfl rfl ?_
  refine ks_iaload (n := 14) S dX0_said_13 rfl hH.a7 (by omega) ?_
  refine ks_iadd (n := 15) S dX0_said_14 rfl (by omega) ?_
  refine ks_iret S dX0_said_15 ?_
  exact rt_e (by unfold m_says; rw [e1, e3])
theorem ev_X0_fill {d v p : Int} (hH : kq_H c) (hd : 0 ≤ d ∧ d < 9) : Ev l yX0_fill cX0_fill 4 none 0 0 [kr c, ki d, ki v, ki p] σ (Rt none (kq_up (kq_up σ (c + 5) d v) (c + 6) d (if 0 < v then p else 9))) := by
  refine ev_intro ym_X0_fill.1 (Nat.le_of_ble_eq_true rfl) (fun hv hσ K S => ?_)
  have hv := hv
  show K 0 [some (kr c), some (ki d), some (ki v), some (ki p)] [] σ
  refine ks_aload_n (n := 1) S dX0_fill_0 rfl rfl ?_
  refine ks_getr (n := 4) S dX0_fill_1 rfl fl_X0_28 hH.o rfl ?_
  refine ks_iload_n (n := 5) S dX0_fill_4 rfl rfl ?_
  refine ks_iload_n (n := 6) S dX0_fill_5 rfl rfl ?_
  refine ks_iastore (n := 7) S dX0_fill_6 rfl hH.a5 (by omega) ?_
  refine ks_aload_n (n := 8) S dX0_fill_7 rfl rfl ?_
  refine ks_getr (n := 11) S dX0_fill_8 rfl fl_X0_31 hH.o rfl ?_
  refine ks_iload_n (n := 12) S dX0_fill_11 rfl rfl ?_
  refine ks_iload_n (n := 13) S dX0_fill_12 rfl rfl ?_
  refine ks_if_le (n := 16) (tgt := 20) S dX0_fill_13 rfl rfl (fun h13 => ?_) (fun h13 => ?_)
  · skip
    refine ks_bipush (n := 22) S dX0_fill_20 rfl (by unfold iv; decide) ?_
    refine ks_iastore (n := 23) S dX0_fill_22 rfl hH.a6 (by omega) ?_
    refine ks_vret S dX0_fill_23 ?_
    first | (rw [if_pos (by omega)]; exact rt_r) | (rw [if_neg (by omega)]; exact rt_r)
  · skip
    refine ks_iload_n (n := 17) S dX0_fill_16 rfl rfl ?_
    refine ks_goto (n := 22) S dX0_fill_17 rfl ?_
    refine ks_iastore (n := 23) S dX0_fill_22 rfl hH.a6 (by omega) ?_
    refine ks_vret S dX0_fill_23 ?_
    first | (rw [if_pos (by omega)]; exact rt_r) | (rw [if_neg (by omega)]; exact rt_r)
theorem ev_X0_heatAfter {d n : Int} (hH : kq_H c) (hR : RepH σ c a) (ok : OkR a) (hd : 0 ≤ d ∧ d < a 0) (hn : 0 ≤ n ∧ n ≤ 60) : Ev l yX0_heatAfter cX0_heatAfter 3 (some .int) 2 44 [kr c, ki d, ki n] σ (Rt (some (ki (m_mx 0 (aD a d 4 - n * m_cl a d)))) σ) := by
  have hn0 := ok.1
  obtain ⟨o1, o2, o3, o4, o5, o6, o7, o8⟩ := ok.2.2.2.1 d hd.1 hd.2
  obtain ⟨e1, e2, e3, e4, e5, e6⟩ := hR.2.2.2.1 d hd.1 hd.2
  refine ev_intro ym_X0_heatAfter.1 (Nat.le_of_ble_eq_true rfl) (fun hv hσ K S => ?_)
  have hv := hv
  show K 0 [some (kr c), some (ki d), some (ki n)] [] σ
  refine ks_aload_n (n := 1) S dX0_heatAfter_0 rfl rfl ?_
  refine ks_getr (n := 4) S dX0_heatAfter_1 rfl fl_X0_15 hH.o rfl ?_
  refine ks_iload_n (n := 5) S dX0_heatAfter_4 rfl rfl ?_
  refine ks_iaload (n := 6) S dX0_heatAfter_5 rfl hH.a1 (by omega) ?_
  refine ks_aload_n (n := 7) S dX0_heatAfter_6 rfl rfl ?_
  refine ks_getr (n := 10) S dX0_heatAfter_7 rfl fl_X0_19 hH.o rfl ?_
  refine ks_iload_n (n := 11) S dX0_heatAfter_10 rfl rfl ?_
  refine ks_iaload (n := 12) S dX0_heatAfter_11 rfl hH.a2 (by omega) ?_
  refine ks_aload_n (n := 13) S dX0_heatAfter_12 rfl rfl ?_
  refine ks_getr (n := 16) S dX0_heatAfter_13 rfl fl_X0_28 hH.o rfl ?_
  refine ks_iload_n (n := 17) S dX0_heatAfter_16 rfl rfl ?_
  refine ks_iaload (n := 18) S dX0_heatAfter_17 rfl hH.a5 (by omega) ?_
  refine ks_iload_n (n := 19) S dX0_heatAfter_18 rfl rfl ?_
  refine kf_s4i (n := 22) S dX0_heatAfter_19 rfl ml_X0_63 ym_X1_cooled (ev_X1_cooled (by omega) (by omega) hn) (by decide) (Nat.le_of_ble_eq_true rfl) ?_
  refine ks_iret S dX0_heatAfter_22 ?_
  exact rt_e (by unfold m_cl; rw [e1, e2, e5])
theorem ev_X0_moodAfter {p n : Int} (hH : kq_H c) (hp : 0 ≤ p ∧ p < 6) (hm : 0 ≤ σ (c + 9) p ∧ σ (c + 9) p ≤ 99) (hn : 0 ≤ n ∧ n ≤ 60) : Ev l yX0_moodAfter cX0_moodAfter 3 (some .int) 1 21 [kr c, ki p, ki n] σ (Rt (some (ki (m_mx 0 (σ (c + 9) p - n * 3)))) σ) := by
  refine ev_intro ym_X0_moodAfter.1 (Nat.le_of_ble_eq_true rfl) (fun hv hσ K S => ?_)
  have hv := hv
  show K 0 [some (kr c), some (ki p), some (ki n)] [] σ
  refine ks_iconst (n := 1) S dX0_moodAfter_0 rfl (by unfold iv; decide) ?_
  refine ks_aload_n (n := 2) S dX0_moodAfter_1 rfl rfl ?_
  refine ks_getr (n := 5) S dX0_moodAfter_2 rfl fl_X0_43 hH.o rfl ?_
  refine ks_iload_n (n := 6) S dX0_moodAfter_5 rfl rfl ?_
  refine ks_iaload (n := 7) S dX0_moodAfter_6 rfl hH.a9 (by omega) ?_
  refine ks_iload_n (n := 8) S dX0_moodAfter_7 rfl rfl ?_
  refine ks_iconst (n := 9) S dX0_moodAfter_8 rfl (by unfold iv; decide) ?_
  refine ks_imul (n := 10) S dX0_moodAfter_9 rfl (by omega) ?_
  refine ks_isub (n := 11) S dX0_moodAfter_10 rfl (by omega) ?_
  refine ks_mmax (n := 14) S dX0_moodAfter_11 rfl ml_X0_87 (by decide) (Nat.le_of_ble_eq_true rfl) ?_
  refine ks_iret S dX0_moodAfter_14 ?_
  exact rt_r
theorem ev_X0_allHeat (hH : kq_H c) (hR : RepH σ c a) (ok : OkR a) : Ev l yX0_allHeat cX0_allHeat 3 (some .int) 0 0 [kr c] σ (Rt (some (ki (m_allH a))) σ) := by
  have hn := ok.1
  have h0 : σ c 0 = a 0 := hR.1
  refine ev_intro ym_X0_allHeat.1 (Nat.le_of_ble_eq_true rfl) (fun hv hσ K S => ?_)
  have hv := hv
  show K 0 [some (kr c), none, none] [] σ
  refine kq_use (kq_for (a 0) (fun i s => 0 ≤ i ∧ s = m_sum (fun d => aD a d 4) i.toNat ∧ 0 ≤ s ∧ s ≤ 99 * i) (fun i s => K 4 [some (kr c), some (ki s), some (ki i)] [] σ) ?_) (fun lp => ?_)
  · intro i s hi inv ih
    obtain ⟨i0, hs, hs0, hs1⟩ := inv
    refine ks_iload_n (n := 5) S dX0_allHeat_4 rfl rfl ?_
    refine ks_aload_n (n := 6) S dX0_allHeat_5 rfl rfl ?_
    refine ks_getI (n := 9) (fi := 0) S dX0_allHeat_6 rfl fl_X0_9 hH.o rfl rfl ?_
    refine ks_icmp_ge (n := 12) (tgt := 27) S dX0_allHeat_9 rfl rfl (fun h9 => ?_) (fun h9 => ?_)
    · skip
      refine ks_iload_n (n := 28) S dX0_allHeat_27 rfl rfl ?_
      refine ks_iret S dX0_allHeat_28 ?_
      exact rt_e (by rw [hs]; unfold m_allH; congr 2; omega)
    · skip
      obtain ⟨o1, o2, o3, o4, o5, o6, o7, o8⟩ := ok.2.2.2.1 i i0 (by omega)
      obtain ⟨e1, e2, e3, e4, e5, e6⟩ := hR.2.2.2.1 i i0 (by omega)
      refine ks_iload_n (n := 13) S dX0_allHeat_12 rfl rfl ?_
      refine ks_aload_n (n := 14) S dX0_allHeat_13 rfl rfl ?_
      refine ks_getr (n := 17) S dX0_allHeat_14 rfl fl_X0_28 hH.o rfl ?_
      refine ks_iload_n (n := 18) S dX0_allHeat_17 rfl rfl ?_
      refine ks_iaload (n := 19) S dX0_allHeat_18 rfl hH.a5 (by omega) ?_
      refine ks_iadd (n := 20) S dX0_allHeat_19 rfl (by omega) ?_
      refine ks_istore_n (n := 21) S dX0_allHeat_20 rfl rfl (L' := fun y => [some (kr c), some (ki y), some (ki i)]) (Nat.le_of_ble_eq_true rfl) (fun _ => rfl) (fun v1_20 hv20 => ?_)
      subst hv20
      refine ks_iinc (n := 24) S dX0_allHeat_21 rfl rfl (by omega) (L' := fun y => [some (kr c), some (ki _), some (ki y)]) (fun _ => rfl) (fun v2_21 hv21 => ?_)
      subst hv21
      refine ks_goto (n := 4) S dX0_allHeat_24 rfl ?_
      refine ih _ (by omega) ⟨by omega, ?_, by omega, by omega⟩
      rw [m_sum_succ i0, ← hs, e5]
  refine ks_iconst (n := 1) S dX0_allHeat_0 rfl (by unfold iv; decide) ?_
  refine ks_istore_n (n := 2) S dX0_allHeat_1 rfl rfl (L' := fun y => [some (kr c), some (ki y), none]) (Nat.le_of_ble_eq_true rfl) (fun _ => rfl) (fun v1_1 hv1 => ?_)
  subst hv1
  refine ks_iconst (n := 3) S dX0_allHeat_2 rfl (by unfold iv; decide) ?_
  refine ks_istore_n (n := 4) S dX0_allHeat_3 rfl rfl (L' := fun y => [some (kr c), some (ki _), some (ki y)]) (Nat.le_of_ble_eq_true rfl) (fun _ => rfl) (fun v2_3 hv3 => ?_)
  subst hv3
  exact lp 0 0 hn.1 ⟨by omega, rfl, by omega, by omega⟩
theorem ev_X0_allMood (hH : kq_H c) (hR : RepH σ c a) (ok : OkR a) : Ev l yX0_allMood cX0_allMood 3 (some .int) 0 0 [kr c] σ (Rt (some (ki (m_allM a))) σ) := by
  have hn := ok.2.1
  have h0 : σ c 7 = a 1 := hR.2.1
  refine ev_intro ym_X0_allMood.1 (Nat.le_of_ble_eq_true rfl) (fun hv hσ K S => ?_)
  have hv := hv
  show K 0 [some (kr c), none, none] [] σ
  refine kq_use (kq_for (a 1) (fun i s => 0 ≤ i ∧ s = m_sum (fun d => aP a d 2) i.toNat ∧ 0 ≤ s ∧ s ≤ 99 * i) (fun i s => K 4 [some (kr c), some (ki s), some (ki i)] [] σ) ?_) (fun lp => ?_)
  · intro i s hi inv ih
    obtain ⟨i0, hs, hs0, hs1⟩ := inv
    refine ks_iload_n (n := 5) S dX0_allMood_4 rfl rfl ?_
    refine ks_aload_n (n := 6) S dX0_allMood_5 rfl rfl ?_
    refine ks_getI (n := 9) (fi := 7) S dX0_allMood_6 rfl fl_X0_34 hH.o rfl rfl ?_
    refine ks_icmp_ge (n := 12) (tgt := 27) S dX0_allMood_9 rfl rfl (fun h9 => ?_) (fun h9 => ?_)
    · skip
      refine ks_iload_n (n := 28) S dX0_allMood_27 rfl rfl ?_
      refine ks_iret S dX0_allMood_28 ?_
      exact rt_e (by rw [hs]; unfold m_allM; congr 2; omega)
    · skip
      obtain ⟨o1, o2, o3⟩ := ok.2.2.2.2 i i0 (by omega)
      obtain ⟨e1, e2, e3⟩ := hR.2.2.2.2 i i0 (by omega)
      refine ks_iload_n (n := 13) S dX0_allMood_12 rfl rfl ?_
      refine ks_aload_n (n := 14) S dX0_allMood_13 rfl rfl ?_
      refine ks_getr (n := 17) S dX0_allMood_14 rfl fl_X0_43 hH.o rfl ?_
      refine ks_iload_n (n := 18) S dX0_allMood_17 rfl rfl ?_
      refine ks_iaload (n := 19) S dX0_allMood_18 rfl hH.a9 (by omega) ?_
      refine ks_iadd (n := 20) S dX0_allMood_19 rfl (by omega) ?_
      refine ks_istore_n (n := 21) S dX0_allMood_20 rfl rfl (L' := fun y => [some (kr c), some (ki y), some (ki i)]) (Nat.le_of_ble_eq_true rfl) (fun _ => rfl) (fun v1_20 hv20 => ?_)
      subst hv20
      refine ks_iinc (n := 24) S dX0_allMood_21 rfl rfl (by omega) (L' := fun y => [some (kr c), some (ki _), some (ki y)]) (fun _ => rfl) (fun v2_21 hv21 => ?_)
      subst hv21
      refine ks_goto (n := 4) S dX0_allMood_24 rfl ?_
      refine ih _ (by omega) ⟨by omega, ?_, by omega, by omega⟩
      rw [m_sum_succ i0, ← hs, e3]
  refine ks_iconst (n := 1) S dX0_allMood_0 rfl (by unfold iv; decide) ?_
  refine ks_istore_n (n := 2) S dX0_allMood_1 rfl rfl (L' := fun y => [some (kr c), some (ki y), none]) (Nat.le_of_ble_eq_true rfl) (fun _ => rfl) (fun v1_1 hv1 => ?_)
  subst hv1
  refine ks_iconst (n := 3) S dX0_allMood_2 rfl (by unfold iv; decide) ?_
  refine ks_istore_n (n := 4) S dX0_allMood_3 rfl rfl (L' := fun y => [some (kr c), some (ki _), some (ki y)]) (Nat.le_of_ble_eq_true rfl) (fun _ => rfl) (fun v2_3 hv3 => ?_)
  subst hv3
  exact lp 0 0 hn.1 ⟨by omega, rfl, by omega, by omega⟩
/-- the doors below n with that voice, in bits -/
def m_vo (a : RW) (w : Int) : Nat → Int
  | 0 => 0
  | n + 1 => if aD a n 5 = w then ib_or (m_vo a w n) (ib_shl 1 n) else m_vo a w n
theorem m_vo_succ {w i : Int} (h : 0 ≤ i) : m_vo a w (i + 1).toNat = if aD a i 5 = w then ib_or (m_vo a w i.toNat) (ib_shl 1 i) else m_vo a w i.toNat := by
  obtain ⟨n, rfl⟩ := Int.eq_ofNat_of_zero_le h
  rfl
theorem ev_X0_doorsOfVoice {w : Int} (hH : kq_H c) (hR : RepH σ c a) (ok : OkR a) : Ev l yX0_doorsOfVoice cX0_doorsOfVoice 4 (some .int) 0 0 [kr c, ki w] σ (Rt (some (ki (m_vo a w (a 0).toNat))) σ) := by
  have hn := ok.1
  have h0 : σ c 0 = a 0 := hR.1
  refine ev_intro ym_X0_doorsOfVoice.1 (Nat.le_of_ble_eq_true rfl) (fun hv hσ K S => ?_)
  have hv := hv
  show K 0 [some (kr c), some (ki w), none, none] [] σ
  refine kq_use (kq_for (a 0) (fun i s => 0 ≤ i ∧ s = m_vo a w i.toNat) (fun i s => K 4 [some (kr c), some (ki w), some (ki s), some (ki i)] [] σ) ?_) (fun lp => ?_)
  · intro i s hi inv ih
    obtain ⟨i0, hs⟩ := inv
    refine ks_iload_n (n := 5) S dX0_doorsOfVoice_4 rfl rfl ?_
    refine ks_aload_n (n := 6) S dX0_doorsOfVoice_5 rfl rfl ?_
    refine ks_getI (n := 9) (fi := 0) S dX0_doorsOfVoice_6 rfl fl_X0_9 hH.o rfl rfl ?_
    refine ks_icmp_ge (n := 12) (tgt := 34) S dX0_doorsOfVoice_9 rfl rfl (fun h9 => ?_) (fun h9 => ?_)
    · skip
      refine ks_iload_n (n := 35) S dX0_doorsOfVoice_34 rfl rfl ?_
      refine ks_iret S dX0_doorsOfVoice_35 ?_
      exact rt_e (by rw [hs]; congr 2; omega)
    · skip
      obtain ⟨e1, e2, e3, e4, e5, e6⟩ := hR.2.2.2.1 i i0 (by omega)
      refine ks_aload_n (n := 13) S dX0_doorsOfVoice_12 rfl rfl ?_
      refine ks_getr (n := 16) S dX0_doorsOfVoice_13 rfl fl_X0_31 hH.o rfl ?_
      refine ks_iload_n (n := 17) S dX0_doorsOfVoice_16 rfl rfl ?_
      refine ks_iaload (n := 18) S dX0_doorsOfVoice_17 rfl hH.a6 (by omega) ?_
      refine ks_iload_n (n := 19) S dX0_doorsOfVoice_18 rfl rfl ?_
      refine ks_icmp_ne (n := 22) (tgt := 28) S dX0_doorsOfVoice_19 rfl rfl (fun h19 => ?_) (fun h19 => ?_)
      · skip
        refine ks_iinc (n := 31) S dX0_doorsOfVoice_28 rfl rfl (by omega) (L' := fun y => [some (kr c), some (ki w), some (ki s), some (ki y)]) (fun _ => rfl) (fun v3_28 hv28 => ?_)
        subst hv28
        refine ks_goto (n := 4) S dX0_doorsOfVoice_31 rfl ?_
        refine ih _ (by omega) ⟨by omega, ?_⟩
        rw [m_vo_succ i0, ← hs]
        first | rw [if_pos (by omega)] | rw [if_neg (by omega)]
      · skip
        refine ks_iload_n (n := 23) S dX0_doorsOfVoice_22 rfl rfl ?_
        refine ks_iconst (n := 24) S dX0_doorsOfVoice_23 rfl (by unfold iv; decide) ?_
        refine ks_iload_n (n := 25) S dX0_doorsOfVoice_24 rfl rfl ?_
        refine ks_ishl (n := 26) S dX0_doorsOfVoice_25 rfl ?_
        refine ks_ior (n := 27) S dX0_doorsOfVoice_26 rfl ?_
        refine ks_istore_n (n := 28) S dX0_doorsOfVoice_27 rfl rfl (L' := fun y => [some (kr c), some (ki w), some (ki y), some (ki i)]) (Nat.le_of_ble_eq_true rfl) (fun _ => rfl) (fun v2_27 hv27 => ?_)
        subst hv27
        refine ks_iinc (n := 31) S dX0_doorsOfVoice_28 rfl rfl (by omega) (L' := fun y => [some (kr c), some (ki w), some (ki _), some (ki y)]) (fun _ => rfl) (fun v3_28 hv28 => ?_)
        subst hv28
        refine ks_goto (n := 4) S dX0_doorsOfVoice_31 rfl ?_
        refine ih _ (by omega) ⟨by omega, ?_⟩
        rw [m_vo_succ i0, ← hs]
        first | rw [if_pos (by omega)] | rw [if_neg (by omega)]
  refine ks_iconst (n := 1) S dX0_doorsOfVoice_0 rfl (by unfold iv; decide) ?_
  refine ks_istore_n (n := 2) S dX0_doorsOfVoice_1 rfl rfl (L' := fun y => [some (kr c), some (ki w), some (ki y), none]) (Nat.le_of_ble_eq_true rfl) (fun _ => rfl) (fun v2_1 hv1 => ?_)
  subst hv1
  refine ks_iconst (n := 3) S dX0_doorsOfVoice_2 rfl (by unfold iv; decide) ?_
  refine ks_istore_n (n := 4) S dX0_doorsOfVoice_3 rfl rfl (L' := fun y => [some (kr c), some (ki w), some (ki _), some (ki y)]) (Nat.le_of_ble_eq_true rfl) (fun _ => rfl) (fun v3_3 hv3 => ?_)
  subst hv3
  exact lp 0 0 hn.1 ⟨by omega, rfl⟩
end HOUSE

