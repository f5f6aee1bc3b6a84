section PUB6
variable {l : Launch} {σ M : KS}
/-- all below n -/
def m_all (p : Int → Bool) : Nat → Bool
  | 0 => true
  | n + 1 => m_all p n && p n
theorem m_all_s {p : Int → Bool} {i : Int} (h : 0 ≤ i) : m_all p (i + 1).toNat = (m_all p i.toNat && p i) := by
  obtain ⟨n, rfl⟩ := Int.eq_ofNat_of_zero_le h
  rfl
theorem m_all_f {p : Int → Bool} {i : Int} (h0 : 0 ≤ i) (hp : p i = false) : ∀ n : Nat, i < n → m_all p n = false := by
  intro n
  induction n with
  | zero => intro h; omega
  | succ n ih =>
    intro h
    show (m_all p n && p n) = false
    by_cases hn : i = n
    · rw [← hn, hp, Bool.and_false]
    · rw [ih (by omega), Bool.false_and]
/-- bits of those below n -/
def m_bs (q : Int → Bool) : Nat → Int
  | 0 => 0
  | n + 1 => if q n = true then ib_or (m_bs q n) (ib_shl 1 n) else m_bs q n
theorem m_bs_s {q : Int → Bool} {i : Int} (h : 0 ≤ i) : m_bs q (i + 1).toNat = if q i = true then ib_or (m_bs q i.toNat) (ib_shl 1 i) else m_bs q i.toNat := by
  obtain ⟨n, rfl⟩ := Int.eq_ofNat_of_zero_le h
  rfl
theorem ib_and_b {p q : Prop} [Decidable p] [Decidable q] : ib_and (bi p) (bi q) = bi (p ∧ q) := by
  unfold bi
  by_cases hp : p <;> by_cases hq : q <;> simp [hp, hq] <;> decide
theorem ib_and_1 {p q : Prop} [Decidable p] [Decidable q] (h : q) : ib_and (bi p) 1 = bi (p ∧ q) := by rw [← ib_and_b, bi_t h]
theorem ib_and_0 {p q : Prop} [Decidable p] [Decidable q] (h : ¬ q) : ib_and (bi p) 0 = bi (p ∧ q) := by rw [← ib_and_b, bi_f h]
/-- the row tells so: heat h of a door of kind k, figure f -/
def m_rp (M : KS) (k f h : Int) (i : Int) : Bool := decide (M 44 i = m_mx 0 (h - i * m_cools k f))
def m_rt (M : KS) (k f h : Int) : Bool := m_all (m_rp M k f h) (M 38 9).toNat
theorem ev_X4_rowTells {k f h : Int} (hM : OkM M) (hC : RC σ M) (hf : 0 ≤ f ∧ f ≤ 9) (hh : 0 ≤ h ∧ h ≤ 99) : Ev l yX4_rowTells cX4_rowTells 5 (some .boolean) 2 44 [kr 0, ki k, ki f, ki h] σ (Rt (some (ki (bi (m_rt M k f h = true)))) σ) := by
  have s9 : σ 0 7 = M 38 9 := hC.2.2.2.2.2.1
  have m9 := hM.2.2.2.2.2.2.2.1
  refine ev_intro ym_X4_rowTells.1 (Nat.le_of_ble_eq_true rfl) (fun hv hσ K S => ?_)
  have hv := hv
  show K 0 [some (kr 0), some (ki k), some (ki f), some (ki h), none] [] σ
  refine kq_use (kq_for (α := Unit) (M 38 9) (fun i _ => 0 ≤ i ∧ m_all (m_rp M k f h) i.toNat = true) (fun i _ => K 3 [some (kr 0), some (ki k), some (ki f), some (ki h), some (ki i)] [] σ) ?_) (fun lp => ?_)
  · intro i _ hi inv ih
    obtain ⟨i0, hd⟩ := inv
    refine ks_iload (n := 5) S dX4_rowTells_3 rfl rfl ?_
    refine ks_aload_n (n := 6) S dX4_rowTells_5 rfl rfl ?_
    refine ks_getI (n := 9) (fi := 7) S dX4_rowTells_6 rfl fl_X4_44 rfl rfl rfl ?_
    refine ks_icmp_ge (n := 12) (tgt := 38) S dX4_rowTells_9 rfl rfl (fun h9 => ?_) (fun h9 => ?_)
    · skip
      refine ks_iconst (n := 39) S dX4_rowTells_38 rfl (by unfold iv; decide) ?_
      refine ks_zret S dX4_rowTells_39 (by first | exact Or.inl rfl | exact Or.inr rfl | exact bi_01) ?_
      refine rt_1 ?_
      unfold m_rt
      rw [show M 38 9 = i by omega]; exact hd
    · skip
      have q1 : σ 36 i = M 44 i := hC.2.2.2.2.2.2.1 i i0 (by omega)
      refine ks_aload_n (n := 13) S dX4_rowTells_12 rfl rfl ?_
      refine ks_getr (n := 16) S dX4_rowTells_13 rfl fl_X4_40 rfl rfl ?_
      refine ks_iload (n := 18) S dX4_rowTells_16 rfl rfl ?_
      refine ks_iaload (n := 19) S dX4_rowTells_18 rfl rfl (by omega) ?_
      refine ks_iload_n (n := 20) S dX4_rowTells_19 rfl rfl ?_
      refine ks_iload_n (n := 21) S dX4_rowTells_20 rfl rfl ?_
      refine ks_iload_n (n := 22) S dX4_rowTells_21 rfl rfl ?_
      refine ks_iload (n := 24) S dX4_rowTells_22 rfl rfl ?_
      refine kf_s4i (n := 27) S dX4_rowTells_24 rfl ml_X4_252 ym_X1_cooled (ev_X1_cooled hf hh (by omega)) (by decide) (Nat.le_of_ble_eq_true rfl) ?_
      refine ks_icmp_eq (n := 30) (tgt := 32) S dX4_rowTells_27 rfl rfl (fun h27 => ?_) (fun h27 => ?_)
      · skip
        refine ks_iinc (n := 35) S dX4_rowTells_32 rfl rfl (by omega) (L' := fun y => [some (kr 0), some (ki k), some (ki f), some (ki h), some (ki y)]) (fun _ => rfl) (fun v4_32 hv32 => ?_)
        subst v4_32
        refine ks_goto (n := 3) S dX4_rowTells_35 rfl ?_
        refine ih () (by omega) ⟨by omega, ?_⟩
        rw [m_all_s i0, hd, Bool.true_and]
        unfold m_rp
        rw [decide_eq_true_eq]; omega
      · skip
        refine ks_iconst (n := 31) S dX4_rowTells_30 rfl (by unfold iv; decide) ?_
        refine ks_zret S dX4_rowTells_31 (by first | exact Or.inl rfl | exact Or.inr rfl | exact bi_01) ?_
        refine rt_0 ?_
        unfold m_rt
        rw [m_all_f i0 (by unfold m_rp; rw [decide_eq_false_iff_not]; omega) _ (by omega)]
        decide
  refine ks_iconst (n := 1) S dX4_rowTells_0 rfl (by unfold iv; decide) ?_
  refine ks_istore (n := 3) S dX4_rowTells_1 rfl (L' := fun y => [some (kr 0), some (ki k), some (ki f), some (ki h), some (ki y)]) (Nat.le_of_ble_eq_true rfl) (fun _ => rfl) (fun v4_1 hv1 => ?_)
  obtain rfl : v4_1 = 0 := by omega
  exact lp 0 () m9.1 ⟨by omega, rfl⟩
theorem ev_X5_isHeatSo {d : Int} (hM : OkM M) (hR : RR σ M) (ok : OkR (σ 40)) (h2 : σ 40 2 ≤ 999) (hd : 0 ≤ d ∧ d < σ 40 0) : Ev l yX5_isHeatSo cX5_isHeatSo 4 (some .boolean) 3 64 [kr 38, ki d] σ (fun r τ => r = some (ki (bi (m_rt M (aD (σ 40) d 0) (aD (σ 40) d 1) (aD (σ 40) d 4) = true))) ∧ FrQ σ τ) := by
  have r9 : σ 38 9 = M 38 9 := hR.2.2.2.2.1
  have r44 : σ 44 = M 44 := hR.2.2.2.2.2.2.1
  have m9 := hM.2.2.2.2.2.2.2.1
  have n9 := ok.1
  have z40 := hR.2.2.2.2.2.2.2.2.1
  obtain ⟨a, ha⟩ : ∃ z, z = σ 40 := ⟨_, rfl⟩
  rw [← ha] at ok h2 hd n9 z40 ⊢
  refine ev_intro ym_X5_isHeatSo.1 (Nat.le_of_ble_eq_true rfl) (fun hv hσ K S => ?_)
  have hv := hv
  show K 0 [some (kr 38), some (ki d), none, none] [] σ
  refine kq_use (kq_for (α := Int) (M 38 9) (fun i s => 0 ≤ i ∧ s = bi (m_all (m_rp M (aD a d 0) (aD a d 1) (aD a d 4)) i.toNat = true)) (fun i s => K 4 [some (kr 38), some (ki d), some (ki s), some (ki i)] [] (sr σ 40 (m_hours a i.toNat))) ?_) (fun lp => ?_)
  · intro i s hi inv ih
    obtain ⟨i0, hs⟩ := inv
    obtain ⟨P1, P2⟩ := m_hours_pass ok i.toNat (by omega)
    have P3 := P1.2.2.1
    rw [show ((i.toNat : Nat) : Int) = i by omega] at P1
    have P5 := (P1.2.2.2.1 d hd.1 hd.2).2.2.2.2.1
    obtain ⟨ρ, hρ⟩ : ∃ z, z = sr σ 40 (m_hours a i.toNat) := ⟨_, rfl⟩
    have r40 : ρ 40 = m_hours a i.toNat := by rw [hρ, sr_r]
    have r9' : ρ 38 9 = M 38 9 := by rw [hρ, sr_n (by decide)]; exact r9
    have r44' : ρ 44 i = M 44 i := by rw [hρ, sr_n (by decide), r44]
    have rh : ρ 40 (3 + 6 * d + 4) = m_mx 0 (aD a d 4 - i * m_cl a d) := by rw [r40]; exact P5
    rw [← hρ]
    refine ks_iload_n (n := 5) S dX5_isHeatSo_4 rfl rfl ?_
    refine ks_aload_n (n := 6) S dX5_isHeatSo_5 rfl rfl ?_
    refine ks_getI (n := 9) (fi := 9) S dX5_isHeatSo_6 rfl fl_X5_188 rfl rfl rfl ?_
    refine ks_icmp_ge (n := 12) (tgt := 52) S dX5_isHeatSo_9 rfl rfl (fun h9 => ?_) (fun h9 => ?_)
    · skip
      refine ks_iload_n (n := 53) S dX5_isHeatSo_52 rfl rfl ?_
      rw [hs]
      refine ks_zret S dX5_isHeatSo_53 (by first | exact Or.inl rfl | exact Or.inr rfl | exact bi_01) ?_
      refine ⟨?_, by rw [hρ]; exact FrQ.m (m_hours_z ok z40 _ (by omega))⟩
      unfold m_rt
      rw [show M 38 9 = i by omega]
    · skip
      refine ks_iload_n (n := 13) S dX5_isHeatSo_12 rfl rfl ?_
      refine ks_aload_n (n := 14) S dX5_isHeatSo_13 rfl rfl ?_
      refine ks_getr (n := 17) S dX5_isHeatSo_14 rfl fl_X5_13 rfl rfl ?_
      refine ks_iload_n (n := 18) S dX5_isHeatSo_17 rfl rfl ?_
      refine ks_iconst (n := 19) S dX5_isHeatSo_18 rfl (by unfold iv; decide) ?_
      refine kf_s2i (n := 22) S dX5_isHeatSo_19 rfl ml_X5_48 ym_X5_ofD (ev_X5_ofD (by omega) (by omega)) (by decide) (Nat.le_of_ble_eq_true rfl) ?_
      refine ks_iaload (n := 23) S dX5_isHeatSo_22 rfl rfl (by omega) ?_
      refine ks_aload_n (n := 24) S dX5_isHeatSo_23 rfl rfl ?_
      refine ks_getr (n := 27) S dX5_isHeatSo_24 rfl fl_X5_25 rfl rfl ?_
      refine ks_iload_n (n := 28) S dX5_isHeatSo_27 rfl rfl ?_
      refine ks_iaload (n := 29) S dX5_isHeatSo_28 rfl rfl (by omega) ?_
      refine ks_icmp_ne (n := 32) (tgt := 36) S dX5_isHeatSo_29 rfl rfl (fun h29 => ?_) (fun h29 => ?_)
      · skip
        refine ks_iconst (n := 37) S dX5_isHeatSo_36 rfl (by unfold iv; decide) ?_
        refine ks_iand (n := 38) S dX5_isHeatSo_37 rfl ?_
        refine ks_istore_n (n := 39) S dX5_isHeatSo_38 rfl rfl (L' := fun y => [some (kr 38), some (ki d), some (ki y), some (ki i)]) (Nat.le_of_ble_eq_true rfl) (fun _ => rfl) (fun v2_38 hv38 => ?_)
        subst v2_38
        refine ks_aload_n (n := 40) S dX5_isHeatSo_39 rfl rfl ?_
        refine ks_getr (n := 43) S dX5_isHeatSo_40 rfl fl_X5_13 rfl rfl ?_
        refine kf_s1v (n := 46) S dX5_isHeatSo_43 rfl ml_X5_83 ym_X5_hour (ev_X5_hour rfl (by rw [r40]; exact P2) (by rw [r40, P3]; omega)) (by decide) (Nat.le_of_ble_eq_true rfl) ?_
        rw [r40, hρ, sr_sr, ← m_hours_succ i0]
        refine ks_iinc (n := 49) S dX5_isHeatSo_46 rfl rfl (by omega) (L' := fun y => [some (kr 38), some (ki d), some (ki _), some (ki y)]) (fun _ => rfl) (fun v3_46 hv46 => ?_)
        subst v3_46
        refine ks_goto (n := 4) S dX5_isHeatSo_49 rfl ?_
        refine ih _ (by omega) ⟨by omega, ?_⟩
        rw [hs, m_all_s i0]
        first | rw [ib_and_1 (q := M 44 i = m_mx 0 (aD a d 4 - i * m_cl a d)) (by omega)] | rw [ib_and_0 (q := M 44 i = m_mx 0 (aD a d 4 - i * m_cl a d)) (by omega)]
        unfold bi m_rp m_cl
        simp only [Bool.and_eq_true, decide_eq_true_eq]
      · skip
        refine ks_iconst (n := 33) S dX5_isHeatSo_32 rfl (by unfold iv; decide) ?_
        refine ks_goto (n := 37) S dX5_isHeatSo_33 rfl ?_
        refine ks_iand (n := 38) S dX5_isHeatSo_37 rfl ?_
        refine ks_istore_n (n := 39) S dX5_isHeatSo_38 rfl rfl (L' := fun y => [some (kr 38), some (ki d), some (ki y), some (ki i)]) (Nat.le_of_ble_eq_true rfl) (fun _ => rfl) (fun v2_38 hv38 => ?_)
        subst v2_38
        refine ks_aload_n (n := 40) S dX5_isHeatSo_39 rfl rfl ?_
        refine ks_getr (n := 43) S dX5_isHeatSo_40 rfl fl_X5_13 rfl rfl ?_
        refine kf_s1v (n := 46) S dX5_isHeatSo_43 rfl ml_X5_83 ym_X5_hour (ev_X5_hour rfl (by rw [r40]; exact P2) (by rw [r40, P3]; omega)) (by decide) (Nat.le_of_ble_eq_true rfl) ?_
        rw [r40, hρ, sr_sr, ← m_hours_succ i0]
        refine ks_iinc (n := 49) S dX5_isHeatSo_46 rfl rfl (by omega) (L' := fun y => [some (kr 38), some (ki d), some (ki _), some (ki y)]) (fun _ => rfl) (fun v3_46 hv46 => ?_)
        subst v3_46
        refine ks_goto (n := 4) S dX5_isHeatSo_49 rfl ?_
        refine ih _ (by omega) ⟨by omega, ?_⟩
        rw [hs, m_all_s i0]
        first | rw [ib_and_1 (q := M 44 i = m_mx 0 (aD a d 4 - i * m_cl a d)) (by omega)] | rw [ib_and_0 (q := M 44 i = m_mx 0 (aD a d 4 - i * m_cl a d)) (by omega)]
        unfold bi m_rp m_cl
        simp only [Bool.and_eq_true, decide_eq_true_eq]
  refine ks_iconst (n := 1) S dX5_isHeatSo_0 rfl (by unfold iv; decide) ?_
  refine ks_istore_n (n := 2) S dX5_isHeatSo_1 rfl rfl (L' := fun y => [some (kr 38), some (ki d), some (ki y), none]) (Nat.le_of_ble_eq_true rfl) (fun _ => rfl) (fun v2_1 hv1 => ?_)
  obtain rfl : v2_1 = 1 := by omega
  refine ks_iconst (n := 3) S dX5_isHeatSo_2 rfl (by unfold iv; decide) ?_
  refine ks_istore_n (n := 4) S dX5_isHeatSo_3 rfl rfl (L' := fun y => [some (kr 38), some (ki d), some (ki (1)), some (ki y)]) (Nat.le_of_ble_eq_true rfl) (fun _ => rfl) (fun v3_3 hv3 => ?_)
  obtain rfl : v3_3 = 0 := by omega
  have e := lp 0 1 m9.1 ⟨by omega, (bi_t rfl).symm⟩
  rw [show sr σ 40 (m_hours a (0 : Int).toNat) = σ from by rw [ha]; exact sr_self] at e
  exact e
def A_who (M : KS) (d : Int) : Int × KS := if ¬ (0 ≤ d ∧ d < M 39 0) then (-1, rfM M (-1)) else (m_bs (fun p => m_rt M (aD (M 39) d 0) (aD (M 39) d 1) (m_held (m_kp (M 39) d (m_says (M 39) p)))) (M 39 1).toNat, M)
theorem pc_who {d : Int} (hM : OkM M) (hC : RC σ M) : Ev l yX4_who cX4_who 6 (some .int) 3 68 [kr 0, ki d] σ (QC (A_who M d) σ) := by
  have R := hC.1
  have ok := hM.1
  have n9 := ok.1
  have n6 := ok.2.1
  have s7 : σ 1 7 = M 39 1 := R.2.1
  refine ev_intro ym_X4_who.1 (Nat.le_of_ble_eq_true rfl) (fun hv hσ K S => ?_)
  have hv := hv
  show K 0 [some (kr 0), some (ki d), none, none, none, none] [] σ
  refine kq_use (fun (hd : 0 ≤ d ∧ d < M 39 0) => kq_for (α := Int) (M 39 1) (fun i s => 0 ≤ i ∧ s = m_bs (fun p => m_rt M (aD (M 39) d 0) (aD (M 39) d 1) (m_held (m_kp (M 39) d (m_says (M 39) p)))) i.toNat) (fun i s => K 43 [some (kr 0), some (ki d), some (ki (aD (M 39) d 0)), some (ki (aD (M 39) d 1)), some (ki s), some (ki i)] [] σ) ?_) (fun lp => ?_)
  · intro i s hi inv ih
    obtain ⟨i0, hs⟩ := inv
    obtain ⟨o1, o2, o3, o4, o5, o6, o7, o8⟩ := ok.2.2.2.1 d hd.1 hd.2
    refine ks_iload (n := 45) S dX4_who_43 rfl rfl ?_
    refine ks_aload_n (n := 46) S dX4_who_45 rfl rfl ?_
    refine ks_getr (n := 49) S dX4_who_46 rfl fl_X4_10 rfl rfl ?_
    refine ks_getI (n := 52) (fi := 7) S dX4_who_49 rfl fl_X4_226 kq_H1.o rfl rfl ?_
    refine ks_icmp_ge (n := 55) (tgt := 93) S dX4_who_52 rfl rfl (fun h52 => ?_) (fun h52 => ?_)
    · skip
      refine ks_iload (n := 95) S dX4_who_93 rfl rfl ?_
      refine ks_iret S dX4_who_95 ?_
      refine qc_a hC ?_
      unfold A_who
      rw [if_neg (by omega), hs, show M 39 1 = i by omega]
    · skip
      have op := ok.2.2.2.2 i i0 (by omega)
      unfold OkP at op
      have hsy : 0 ≤ m_says (M 39) i ∧ m_says (M 39) i ≤ 99 := by unfold m_says; omega
      have hkp := m_keeps_b (k := aD (M 39) d 0) o2 hsy.1
      have heq : m_mn 99 (m_keeps (aD (M 39) d 0) (aD (M 39) d 1) (m_says (M 39) i)) = m_held (m_kp (M 39) d (m_says (M 39) i)) := by unfold m_kp m_mn m_held; (repeat' split) <;> omega
      have hhb := m_held_b (m_kp (M 39) d (m_says (M 39) i))
      refine ks_aload_n (n := 56) S dX4_who_55 rfl rfl ?_
      refine ks_iload_n (n := 57) S dX4_who_56 rfl rfl ?_
      refine ks_iload_n (n := 58) S dX4_who_57 rfl rfl ?_
      refine ks_iload_n (n := 59) S dX4_who_58 rfl rfl ?_
      refine ks_iload_n (n := 60) S dX4_who_59 rfl rfl ?_
      refine ks_aload_n (n := 61) S dX4_who_60 rfl rfl ?_
      refine ks_getr (n := 64) S dX4_who_61 rfl fl_X4_10 rfl rfl ?_
      refine ks_iload (n := 66) S dX4_who_64 rfl rfl ?_
      refine kf_v1i (n := 69) S dX4_who_66 rfl ml_X4_111 ym_X0_said (ev_X0_said kq_H1 R ok (by omega)) (by decide) kq_H1.o (Nat.le_of_ble_eq_true rfl) ?_
      refine kf_s3i (n := 72) S dX4_who_69 rfl ml_X4_264 ym_X1_keeps (ev_X1_keeps o2 (by omega)) (by decide) (Nat.le_of_ble_eq_true rfl) ?_
      rw [heq]
      refine kf_v3z (n := 75) S dX4_who_72 rfl ml_X4_267 ym_X4_rowTells (ev_X4_rowTells hM hC o2 hhb) (by decide) rfl (Nat.le_of_ble_eq_true rfl) ?_
      refine ks_if_eq (n := 78) (tgt := 87) S dX4_who_75 rfl rfl (fun h75 => ?_) (fun h75 => ?_)
      · skip
        simp only [bi_eq, bi_ne, Classical.not_not] at h75
        refine ks_iinc (n := 90) S dX4_who_87 rfl rfl (by omega) (L' := fun y => [some (kr 0), some (ki d), some (ki (aD (M 39) d 0)), some (ki (aD (M 39) d 1)), some (ki s), some (ki y)]) (fun _ => rfl) (fun v5_87 hv87 => ?_)
        subst v5_87
        refine ks_goto (n := 43) S dX4_who_90 rfl ?_
        refine ih _ (by omega) ⟨by omega, ?_⟩
        rw [m_bs_s i0, ← hs]
        first | rw [if_pos h75] | rw [if_neg h75]
      · skip
        simp only [bi_eq, bi_ne, Classical.not_not] at h75
        refine ks_iload (n := 80) S dX4_who_78 rfl rfl ?_
        refine ks_iconst (n := 81) S dX4_who_80 rfl (by unfold iv; decide) ?_
        refine ks_iload (n := 83) S dX4_who_81 rfl rfl ?_
        refine ks_ishl (n := 84) S dX4_who_83 rfl ?_
        refine ks_ior (n := 85) S dX4_who_84 rfl ?_
        refine ks_istore (n := 87) S dX4_who_85 rfl (L' := fun y => [some (kr 0), some (ki d), some (ki (aD (M 39) d 0)), some (ki (aD (M 39) d 1)), some (ki y), some (ki i)]) (Nat.le_of_ble_eq_true rfl) (fun _ => rfl) (fun v4_85 hv85 => ?_)
        subst v4_85
        refine ks_iinc (n := 90) S dX4_who_87 rfl rfl (by omega) (L' := fun y => [some (kr 0), some (ki d), some (ki (aD (M 39) d 0)), some (ki (aD (M 39) d 1)), some (ki _), some (ki y)]) (fun _ => rfl) (fun v5_87 hv87 => ?_)
        subst v5_87
        refine ks_goto (n := 43) S dX4_who_90 rfl ?_
        refine ih _ (by omega) ⟨by omega, ?_⟩
        rw [m_bs_s i0, ← hs]
        first | rw [if_pos h75] | rw [if_neg h75]
  refine ks_aload_n (n := 1) S dX4_who_0 rfl rfl ?_
  refine ks_getr (n := 4) S dX4_who_1 rfl fl_X4_10 rfl rfl ?_
  refine ks_iload_n (n := 5) S dX4_who_4 rfl rfl ?_
  refine kf_v1z (n := 8) S dX4_who_5 rfl ml_X4_74 ym_X0_hasDoor (ev_X0_hasDoor kq_H1 R) (by decide) kq_H1.o (Nat.le_of_ble_eq_true rfl) ?_
  refine ks_if_ne (n := 11) (tgt := 17) S dX4_who_8 rfl rfl (fun h8 => ?_) (fun h8 => ?_)
  · skip
    simp only [bi_eq, bi_ne, Classical.not_not] at h8
    obtain ⟨e1, e2, e3, e4, e5, e6⟩ := R.2.2.2.1 d (by omega) (by omega)
    refine ks_aload_n (n := 18) S dX4_who_17 rfl rfl ?_
    refine ks_getr (n := 21) S dX4_who_18 rfl fl_X4_10 rfl rfl ?_
    refine ks_getr (n := 24) S dX4_who_21 rfl fl_X4_78 kq_H1.o rfl ?_
    refine ks_iload_n (n := 25) S dX4_who_24 rfl rfl ?_
    refine ks_iaload (n := 26) S dX4_who_25 rfl kq_H1.a1 (by omega) ?_
    refine ks_istore_n (n := 27) S dX4_who_26 rfl rfl (L' := fun y => [some (kr 0), some (ki d), some (ki y), none, none, none]) (Nat.le_of_ble_eq_true rfl) (fun _ => rfl) (fun v2_26 hv26 => ?_)
    subst v2_26
    refine ks_aload_n (n := 28) S dX4_who_27 rfl rfl ?_
    refine ks_getr (n := 31) S dX4_who_28 rfl fl_X4_10 rfl rfl ?_
    refine ks_getr (n := 34) S dX4_who_31 rfl fl_X4_81 kq_H1.o rfl ?_
    refine ks_iload_n (n := 35) S dX4_who_34 rfl rfl ?_
    refine ks_iaload (n := 36) S dX4_who_35 rfl kq_H1.a2 (by omega) ?_
    refine ks_istore_n (n := 37) S dX4_who_36 rfl rfl (L' := fun y => [some (kr 0), some (ki d), some (ki _), some (ki y), none, none]) (Nat.le_of_ble_eq_true rfl) (fun _ => rfl) (fun v3_36 hv36 => ?_)
    subst v3_36
    refine ks_iconst (n := 38) S dX4_who_37 rfl (by unfold iv; decide) ?_
    refine ks_istore (n := 40) S dX4_who_38 rfl (L' := fun y => [some (kr 0), some (ki d), some (ki _), some (ki _), some (ki y), none]) (Nat.le_of_ble_eq_true rfl) (fun _ => rfl) (fun v4_38 hv38 => ?_)
    obtain rfl : v4_38 = 0 := by omega
    refine ks_iconst (n := 41) S dX4_who_40 rfl (by unfold iv; decide) ?_
    refine ks_istore (n := 43) S dX4_who_41 rfl (L' := fun y => [some (kr 0), some (ki d), some (ki _), some (ki _), some (ki (0)), some (ki y)]) (Nat.le_of_ble_eq_true rfl) (fun _ => rfl) (fun v5_41 hv41 => ?_)
    obtain rfl : v5_41 = 0 := by omega
    rw [e1, e2]
    exact lp h8 0 0 n6.1 ⟨by omega, rfl⟩
  · skip
    simp only [bi_eq, bi_ne, Classical.not_not] at h8
    refine ks_aload_n (n := 12) S dX4_who_11 rfl rfl ?_
    refine ks_iconst (n := 13) S dX4_who_12 rfl (by unfold iv; decide) ?_
    refine kf_v1i (n := 16) S dX4_who_13 rfl ml_X4_51 ym_X4_refuse (ev_X4_refuse (by omega)) (by decide) rfl (Nat.le_of_ble_eq_true rfl) ?_
    refine ks_iret S dX4_who_16 ?_
    exact qc_r hC (by omega) (by unfold A_who; rw [if_pos h8])
theorem qr_m2 {τ : KS} (hR : RR σ M) (hq : FrQ σ τ) : RR τ M := hR.fr hq
theorem pr_who {d : Int} (hM : OkM M) (hR : RR σ M) : Ev l yX5_who cX5_who 4 (some .int) 4 87 [kr 38, ki d] σ (QR (A_who M d) σ) := by
  have e39 : σ 39 = M 39 := hR.1
  have ok := hM.1
  have n9 := ok.1
  have n6 := ok.2.1
  have z39 := hM.2.2.1
  have h999 := hM.2.1
  refine ev_intro ym_X5_who.1 (Nat.le_of_ble_eq_true rfl) (fun hv hσ K S => ?_)
  have hv := hv
  show K 0 [some (kr 38), some (ki d), none, none] [] σ
  refine kq_use (fun (hd : 0 ≤ d ∧ d < M 39 0) => kq_for (α := Int × KS) (M 39 1) (fun i s => 0 ≤ i ∧ iv s.1 ∧ FrQ σ s.2 ∧ s.1 = m_bs (fun p => m_rt M (aD (M 39) d 0) (aD (M 39) d 1) (m_held (m_kp (M 39) d (m_says (M 39) p)))) i.toNat) (fun i s => K 18 [some (kr 38), some (ki d), some (ki s.1), some (ki i)] [] s.2) ?_) (fun lp => ?_)
  · intro i s hi inv ih
    obtain ⟨s, ρ⟩ := s
    obtain ⟨i0, his, F, hs⟩ := inv
    simp only at his F hs ⊢
    have R2 := hR.fr F
    have r39 : ρ 39 = M 39 := R2.1
    have q1 : ρ 39 1 = M 39 1 := by rw [r39]
    obtain ⟨o1, o2, o3, o4, o5, o6, o7, o8⟩ := ok.2.2.2.1 d hd.1 hd.2
    refine ks_iload_n (n := 19) S dX5_who_18 rfl rfl ?_
    refine ks_aload_n (n := 20) S dX5_who_19 rfl rfl ?_
    refine ks_getr (n := 23) S dX5_who_20 rfl fl_X5_9 rfl rfl ?_
    refine ks_iconst (n := 24) S dX5_who_23 rfl (by unfold iv; decide) ?_
    refine ks_iaload (n := 25) S dX5_who_24 rfl rfl (by omega) ?_
    refine ks_icmp_ge (n := 28) (tgt := 88) S dX5_who_25 rfl rfl (fun h25 => ?_) (fun h25 => ?_)
    · skip
      refine ks_iload_n (n := 89) S dX5_who_88 rfl rfl ?_
      refine ks_iret S dX5_who_89 ?_
      refine qr_t hR F ?_
      unfold A_who
      rw [if_neg (by omega), hs, show M 39 1 = i by omega]
    · skip
      have op := ok.2.2.2.2 i i0 (by omega)
      unfold OkP at op
      have hsy : 0 ≤ m_says (M 39) i ∧ m_says (M 39) i ≤ 99 := by unfold m_says; omega
      have okh := m_heats_ok (v := m_kp (M 39) d (m_says (M 39) i)) (p := i) ok (show 0 ≤ d ∧ d < 9 by omega) (by omega)
      have zh := m_heats_z (v := m_kp (M 39) d (m_says (M 39) i)) (p := i) z39 (show 0 ≤ d ∧ d < 9 by omega)
      have b0 : ∀ j, j < 3 → m_heats (M 39) d (m_kp (M 39) d (m_says (M 39) i)) i j = M 39 j := fun j hj => by unfold m_heats; rw [ru_n (by omega), ru_n (by omega)]
      have g0 : aD (m_heats (M 39) d (m_kp (M 39) d (m_says (M 39) i)) i) d 0 = aD (M 39) d 0 := by unfold aD m_heats; rw [ru_n (by omega), ru_n (by omega)]
      have g1 : aD (m_heats (M 39) d (m_kp (M 39) d (m_says (M 39) i)) i) d 1 = aD (M 39) d 1 := by unfold aD m_heats; rw [ru_n (by omega), ru_n (by omega)]
      have g4 : aD (m_heats (M 39) d (m_kp (M 39) d (m_says (M 39) i)) i) d 4 = m_held (m_kp (M 39) d (m_says (M 39) i)) := by unfold aD m_heats; rw [ru_n (by omega), ru_s]
      refine ks_aload_n (n := 29) S dX5_who_28 rfl rfl ?_
      refine ks_getr (n := 32) S dX5_who_29 rfl fl_X5_9 rfl rfl ?_
      refine ks_aload_n (n := 33) S dX5_who_32 rfl rfl ?_
      refine ks_getr (n := 36) S dX5_who_33 rfl fl_X5_13 rfl rfl ?_
      refine kf_s2v (n := 39) S dX5_who_36 rfl ml_X5_137 ym_X5_copies (ev_X5_copies rfl rfl (by decide) (by rw [r39]; exact z39) R2.2.2.2.2.2.2.2.2.1) (by decide) (Nat.le_of_ble_eq_true rfl) ?_
      rw [r39]
      refine ks_aload_n (n := 40) S dX5_who_39 rfl rfl ?_
      refine ks_getr (n := 43) S dX5_who_40 rfl fl_X5_13 rfl rfl ?_
      refine ks_iload_n (n := 44) S dX5_who_43 rfl rfl ?_
      refine ks_aload_n (n := 45) S dX5_who_44 rfl rfl ?_
      refine ks_getr (n := 48) S dX5_who_45 rfl fl_X5_13 rfl rfl ?_
      refine ks_iload_n (n := 49) S dX5_who_48 rfl rfl ?_
      refine ks_aload_n (n := 50) S dX5_who_49 rfl rfl ?_
      refine ks_getr (n := 53) S dX5_who_50 rfl fl_X5_13 rfl rfl ?_
      refine ks_iload_n (n := 54) S dX5_who_53 rfl rfl ?_
      refine kf_s2i (n := 57) S dX5_who_54 rfl ml_X5_62 ym_X5_says (ev_X5_says rfl (by omega) (by rw [sr_r]; exact op.1) (by rw [sr_r]; exact op.2.2)) (by decide) (Nat.le_of_ble_eq_true rfl) ?_
      refine kf_s3i (n := 60) S dX5_who_57 rfl ml_X5_65 ym_X5_keeps (ev_X5_keeps rfl (by omega) (by rw [sr_r]; exact o2) (by rw [sr_r]; omega)) (by decide) (Nat.le_of_ble_eq_true rfl) ?_
      refine ks_iload_n (n := 61) S dX5_who_60 rfl rfl ?_
      refine kf_s4v (n := 64) S dX5_who_61 rfl ml_X5_69 ym_X5_heats (ev_X5_heats rfl (by omega)) (by decide) (Nat.le_of_ble_eq_true rfl) ?_
      rw [sr_r, sr_sr]
      refine ks_iload_n (n := 65) S dX5_who_64 rfl rfl ?_
      refine ks_aload_n (n := 66) S dX5_who_65 rfl rfl ?_
      refine ks_iload_n (n := 67) S dX5_who_66 rfl rfl ?_
      refine ks_v1z (n := 70) S dX5_who_67 rfl ml_X5_232 ym_X5_isHeatSo (ev_X5_isHeatSo hM (R2.fr (FrQ.m zh)) (by rw [sr_r]; exact okh) (by rw [sr_r, b0 2 (by omega)]; exact h999) (by rw [sr_r, b0 0 (by omega)]; exact hd)) (by decide) rfl (Nat.le_of_ble_eq_true rfl) (fun r67 τ67 q67 => ?_)
      obtain ⟨w1, w2⟩ := q67
      rw [sr_r, g0, g1, g4] at w1
      cases w1
      have F2 := (F.tr (FrQ.m zh)).tr w2
      refine ks_if_eq (n := 73) (tgt := 79) S dX5_who_70 rfl rfl (fun h70 => ?_) (fun h70 => ?_)
      · skip
        simp only [bi_eq, bi_ne, Classical.not_not] at h70
        refine ks_iconst (n := 80) S dX5_who_79 rfl (by unfold iv; decide) ?_
        refine ks_ior (n := 81) S dX5_who_80 rfl ?_
        refine ks_istore_n (n := 82) S dX5_who_81 rfl rfl (L' := fun y => [some (kr 38), some (ki d), some (ki y), some (ki i)]) (Nat.le_of_ble_eq_true rfl) (fun _ => rfl) (fun v2_81 hv81 => ?_)
        subst v2_81
        refine ks_iinc (n := 85) S dX5_who_82 rfl rfl (by omega) (L' := fun y => [some (kr 38), some (ki d), some (ki _), some (ki y)]) (fun _ => rfl) (fun v3_82 hv82 => ?_)
        subst v3_82
        refine ks_goto (n := 18) S dX5_who_85 rfl ?_
        refine ih (_, τ67) (by omega) ⟨by omega, iv_to _, F2, ?_⟩
        dsimp only
        rw [m_bs_s i0, ← hs]
        first | (rw [if_neg h70]; exact ib_or_0 his) | (rw [if_pos h70]; rfl)
      · skip
        simp only [bi_eq, bi_ne, Classical.not_not] at h70
        refine ks_iconst (n := 74) S dX5_who_73 rfl (by unfold iv; decide) ?_
        refine ks_iload_n (n := 75) S dX5_who_74 rfl rfl ?_
        refine ks_ishl (n := 76) S dX5_who_75 rfl ?_
        refine ks_goto (n := 80) S dX5_who_76 rfl ?_
        refine ks_ior (n := 81) S dX5_who_80 rfl ?_
        refine ks_istore_n (n := 82) S dX5_who_81 rfl rfl (L' := fun y => [some (kr 38), some (ki d), some (ki y), some (ki i)]) (Nat.le_of_ble_eq_true rfl) (fun _ => rfl) (fun v2_81 hv81 => ?_)
        subst v2_81
        refine ks_iinc (n := 85) S dX5_who_82 rfl rfl (by omega) (L' := fun y => [some (kr 38), some (ki d), some (ki _), some (ki y)]) (fun _ => rfl) (fun v3_82 hv82 => ?_)
        subst v3_82
        refine ks_goto (n := 18) S dX5_who_85 rfl ?_
        refine ih (_, τ67) (by omega) ⟨by omega, iv_to _, F2, ?_⟩
        dsimp only
        rw [m_bs_s i0, ← hs]
        first | (rw [if_neg h70]; exact ib_or_0 his) | (rw [if_pos h70]; rfl)
  refine ks_aload_n (n := 1) S dX5_who_0 rfl rfl ?_
  refine ks_iload_n (n := 2) S dX5_who_1 rfl rfl ?_
  refine kf_v1z (n := 5) S dX5_who_2 rfl ml_X5_120 ym_X5_isDoor (ev_X5_isDoor (by rw [e39]; exact n9)) (by decide) rfl (Nat.le_of_ble_eq_true rfl) ?_
  refine ks_if_ne (n := 8) (tgt := 14) S dX5_who_5 rfl rfl (fun h5 => ?_) (fun h5 => ?_)
  · skip
    simp only [bi_eq, bi_ne, e39] at h5
    refine ks_iconst (n := 15) S dX5_who_14 rfl (by unfold iv; decide) ?_
    refine ks_istore_n (n := 16) S dX5_who_15 rfl rfl (L' := fun y => [some (kr 38), some (ki d), some (ki y), none]) (Nat.le_of_ble_eq_true rfl) (fun _ => rfl) (fun v2_15 hv15 => ?_)
    obtain rfl : v2_15 = 0 := by omega
    refine ks_iconst (n := 17) S dX5_who_16 rfl (by unfold iv; decide) ?_
    refine ks_istore_n (n := 18) S dX5_who_17 rfl rfl (L' := fun y => [some (kr 38), some (ki d), some (ki (0)), some (ki y)]) (Nat.le_of_ble_eq_true rfl) (fun _ => rfl) (fun v3_17 hv17 => ?_)
    obtain rfl : v3_17 = 0 := by omega
    exact lp (by omega) 0 (0, σ) n6.1 ⟨by omega, iv_0, FrQ.rf hR.2.2.2.2.2.2.2.2.1, rfl⟩
  · skip
    simp only [bi_eq, bi_ne, e39] at h5
    refine ks_aload_n (n := 9) S dX5_who_8 rfl rfl ?_
    refine ks_iconst (n := 10) S dX5_who_9 rfl (by unfold iv; decide) ?_
    refine kf_v1i (n := 13) S dX5_who_10 rfl ml_X5_38 ym_X5_no (ev_X5_no (by omega)) (by decide) rfl (Nat.le_of_ble_eq_true rfl) ?_
    refine ks_iret S dX5_who_13 ?_
    exact qr_r hR (by unfold A_who; rw [if_pos (by omega)])
def A_whatIs (M : KS) (d w : Int) : Int × KS := if ¬ (0 ≤ d ∧ d < M 39 0) then (-1, rfM M (-1)) else if ¬ (0 ≤ w ∧ w ≤ 1) then (-2, rfM M (-2)) else (if w = 0 then m_bs (fun k => m_rt M k (aD (M 39) d 1) (aD (M 39) d 4)) 6 else m_bs (fun f => m_rt M (aD (M 39) d 0) f (aD (M 39) d 4)) 10, M)
theorem ev_X4_kindsTold {f h : Int} (hM : OkM M) (hC : RC σ M) (hf : 0 ≤ f ∧ f ≤ 9) (hh : 0 ≤ h ∧ h ≤ 99) : Ev l yX4_kindsTold cX4_kindsTold 5 (some .int) 3 68 [kr 0, ki f, ki h] σ (Rt (some (ki (m_bs (fun k => m_rt M k f h) 6))) σ) := by
  refine ev_intro ym_X4_kindsTold.1 (Nat.le_of_ble_eq_true rfl) (fun hv hσ K S => ?_)
  have hv := hv
  show K 0 [some (kr 0), some (ki f), some (ki h), none, none] [] σ
  refine kq_use (kq_for (α := Int) 6 (fun i s => 0 ≤ i ∧ s = m_bs (fun k => m_rt M k f h) i.toNat) (fun i s => K 5 [some (kr 0), some (ki f), some (ki h), some (ki s), some (ki i)] [] σ) ?_) (fun lp => ?_)
  · intro i s hi inv ih
    obtain ⟨i0, hs⟩ := inv
    refine ks_iload (n := 7) S dX4_kindsTold_5 rfl rfl ?_
    refine ks_bipush (n := 9) S dX4_kindsTold_7 rfl (by unfold iv; decide) ?_
    refine ks_icmp_ge (n := 12) (tgt := 36) S dX4_kindsTold_9 rfl rfl (fun h9 => ?_) (fun h9 => ?_)
    · skip
      refine ks_iload_n (n := 37) S dX4_kindsTold_36 rfl rfl ?_
      refine ks_iret S dX4_kindsTold_37 ?_
      exact rt_e (by rw [hs, show i = 6 by omega]; rfl)
    · skip
      refine ks_aload_n (n := 13) S dX4_kindsTold_12 rfl rfl ?_
      refine ks_iload (n := 15) S dX4_kindsTold_13 rfl rfl ?_
      refine ks_iload_n (n := 16) S dX4_kindsTold_15 rfl rfl ?_
      refine ks_iload_n (n := 17) S dX4_kindsTold_16 rfl rfl ?_
      refine kf_v3z (n := 20) S dX4_kindsTold_17 rfl ml_X4_267 ym_X4_rowTells (ev_X4_rowTells hM hC hf hh) (by decide) rfl (Nat.le_of_ble_eq_true rfl) ?_
      refine ks_if_eq (n := 23) (tgt := 30) S dX4_kindsTold_20 rfl rfl (fun h20 => ?_) (fun h20 => ?_)
      · skip
        simp only [bi_eq, bi_ne, Classical.not_not] at h20
        refine ks_iinc (n := 33) S dX4_kindsTold_30 rfl rfl (by omega) (L' := fun y => [some (kr 0), some (ki f), some (ki h), some (ki s), some (ki y)]) (fun _ => rfl) (fun v4_30 hv30 => ?_)
        subst v4_30
        refine ks_goto (n := 5) S dX4_kindsTold_33 rfl ?_
        refine ih _ (by omega) ⟨by omega, ?_⟩
        rw [m_bs_s i0, ← hs]
        first | rw [if_neg h20] | rw [if_pos h20]
      · skip
        simp only [bi_eq, bi_ne, Classical.not_not] at h20
        refine ks_iload_n (n := 24) S dX4_kindsTold_23 rfl rfl ?_
        refine ks_iconst (n := 25) S dX4_kindsTold_24 rfl (by unfold iv; decide) ?_
        refine ks_iload (n := 27) S dX4_kindsTold_25 rfl rfl ?_
        refine ks_ishl (n := 28) S dX4_kindsTold_27 rfl ?_
        refine ks_ior (n := 29) S dX4_kindsTold_28 rfl ?_
        refine ks_istore_n (n := 30) S dX4_kindsTold_29 rfl rfl (L' := fun y => [some (kr 0), some (ki f), some (ki h), some (ki y), some (ki i)]) (Nat.le_of_ble_eq_true rfl) (fun _ => rfl) (fun v3_29 hv29 => ?_)
        subst v3_29
        refine ks_iinc (n := 33) S dX4_kindsTold_30 rfl rfl (by omega) (L' := fun y => [some (kr 0), some (ki f), some (ki h), some (ki _), some (ki y)]) (fun _ => rfl) (fun v4_30 hv30 => ?_)
        subst v4_30
        refine ks_goto (n := 5) S dX4_kindsTold_33 rfl ?_
        refine ih _ (by omega) ⟨by omega, ?_⟩
        rw [m_bs_s i0, ← hs]
        first | rw [if_neg h20] | rw [if_pos h20]
  refine ks_iconst (n := 1) S dX4_kindsTold_0 rfl (by unfold iv; decide) ?_
  refine ks_istore_n (n := 2) S dX4_kindsTold_1 rfl rfl (L' := fun y => [some (kr 0), some (ki f), some (ki h), some (ki y), none]) (Nat.le_of_ble_eq_true rfl) (fun _ => rfl) (fun v3_1 hv1 => ?_)
  obtain rfl : v3_1 = 0 := by omega
  refine ks_iconst (n := 3) S dX4_kindsTold_2 rfl (by unfold iv; decide) ?_
  refine ks_istore (n := 5) S dX4_kindsTold_3 rfl (L' := fun y => [some (kr 0), some (ki f), some (ki h), some (ki (0)), some (ki y)]) (Nat.le_of_ble_eq_true rfl) (fun _ => rfl) (fun v4_3 hv3 => ?_)
  obtain rfl : v4_3 = 0 := by omega
  exact lp 0 0 (by omega) ⟨by omega, rfl⟩
theorem ev_X4_figuresTold {k h : Int} (hM : OkM M) (hC : RC σ M) (hh : 0 ≤ h ∧ h ≤ 99) : Ev l yX4_figuresTold cX4_figuresTold 5 (some .int) 3 68 [kr 0, ki k, ki h] σ (Rt (some (ki (m_bs (fun f => m_rt M k f h) 10))) σ) := by
  refine ev_intro ym_X4_figuresTold.1 (Nat.le_of_ble_eq_true rfl) (fun hv hσ K S => ?_)
  have hv := hv
  show K 0 [some (kr 0), some (ki k), some (ki h), none, none] [] σ
  refine kq_use (kq_for (α := Int) 10 (fun i s => 0 ≤ i ∧ s = m_bs (fun f => m_rt M k f h) i.toNat) (fun i s => K 5 [some (kr 0), some (ki k), some (ki h), some (ki s), some (ki i)] [] σ) ?_) (fun lp => ?_)
  · intro i s hi inv ih
    obtain ⟨i0, hs⟩ := inv
    refine ks_iload (n := 7) S dX4_figuresTold_5 rfl rfl ?_
    refine ks_bipush (n := 9) S dX4_figuresTold_7 rfl (by unfold iv; decide) ?_
    refine ks_icmp_gt (n := 12) (tgt := 36) S dX4_figuresTold_9 rfl rfl (fun h9 => ?_) (fun h9 => ?_)
    · skip
      refine ks_iload_n (n := 37) S dX4_figuresTold_36 rfl rfl ?_
      refine ks_iret S dX4_figuresTold_37 ?_
      exact rt_e (by rw [hs, show i = 10 by omega]; rfl)
    · skip
      refine ks_aload_n (n := 13) S dX4_figuresTold_12 rfl rfl ?_
      refine ks_iload_n (n := 14) S dX4_figuresTold_13 rfl rfl ?_
      refine ks_iload (n := 16) S dX4_figuresTold_14 rfl rfl ?_
      refine ks_iload_n (n := 17) S dX4_figuresTold_16 rfl rfl ?_
      refine kf_v3z (n := 20) S dX4_figuresTold_17 rfl ml_X4_267 ym_X4_rowTells (ev_X4_rowTells hM hC (by omega) hh) (by decide) rfl (Nat.le_of_ble_eq_true rfl) ?_
      refine ks_if_eq (n := 23) (tgt := 30) S dX4_figuresTold_20 rfl rfl (fun h20 => ?_) (fun h20 => ?_)
      · skip
        simp only [bi_eq, bi_ne, Classical.not_not] at h20
        refine ks_iinc (n := 33) S dX4_figuresTold_30 rfl rfl (by omega) (L' := fun y => [some (kr 0), some (ki k), some (ki h), some (ki s), some (ki y)]) (fun _ => rfl) (fun v4_30 hv30 => ?_)
        subst v4_30
        refine ks_goto (n := 5) S dX4_figuresTold_33 rfl ?_
        refine ih _ (by omega) ⟨by omega, ?_⟩
        rw [m_bs_s i0, ← hs]
        first | rw [if_neg h20] | rw [if_pos h20]
      · skip
        simp only [bi_eq, bi_ne, Classical.not_not] at h20
        refine ks_iload_n (n := 24) S dX4_figuresTold_23 rfl rfl ?_
        refine ks_iconst (n := 25) S dX4_figuresTold_24 rfl (by unfold iv; decide) ?_
        refine ks_iload (n := 27) S dX4_figuresTold_25 rfl rfl ?_
        refine ks_ishl (n := 28) S dX4_figuresTold_27 rfl ?_
        refine ks_ior (n := 29) S dX4_figuresTold_28 rfl ?_
        refine ks_istore_n (n := 30) S dX4_figuresTold_29 rfl rfl (L' := fun y => [some (kr 0), some (ki k), some (ki h), some (ki y), some (ki i)]) (Nat.le_of_ble_eq_true rfl) (fun _ => rfl) (fun v3_29 hv29 => ?_)
        subst v3_29
        refine ks_iinc (n := 33) S dX4_figuresTold_30 rfl rfl (by omega) (L' := fun y => [some (kr 0), some (ki k), some (ki h), some (ki _), some (ki y)]) (fun _ => rfl) (fun v4_30 hv30 => ?_)
        subst v4_30
        refine ks_goto (n := 5) S dX4_figuresTold_33 rfl ?_
        refine ih _ (by omega) ⟨by omega, ?_⟩
        rw [m_bs_s i0, ← hs]
        first | rw [if_neg h20] | rw [if_pos h20]
  refine ks_iconst (n := 1) S dX4_figuresTold_0 rfl (by unfold iv; decide) ?_
  refine ks_istore_n (n := 2) S dX4_figuresTold_1 rfl rfl (L' := fun y => [some (kr 0), some (ki k), some (ki h), some (ki y), none]) (Nat.le_of_ble_eq_true rfl) (fun _ => rfl) (fun v3_1 hv1 => ?_)
  obtain rfl : v3_1 = 0 := by omega
  refine ks_iconst (n := 3) S dX4_figuresTold_2 rfl (by unfold iv; decide) ?_
  refine ks_istore (n := 5) S dX4_figuresTold_3 rfl (L' := fun y => [some (kr 0), some (ki k), some (ki h), some (ki (0)), some (ki y)]) (Nat.le_of_ble_eq_true rfl) (fun _ => rfl) (fun v4_3 hv3 => ?_)
  obtain rfl : v4_3 = 0 := by omega
  exact lp 0 0 (by omega) ⟨by omega, rfl⟩
theorem pc_whatIs {d w : Int} (hM : OkM M) (hC : RC σ M) : Ev l yX4_whatIs cX4_whatIs 3 (some .int) 4 92 [kr 0, ki d, ki w] σ (QC (A_whatIs M d w) σ) := by
  have R := hC.1
  have ok := hM.1
  have n9 := ok.1
  have n6 := ok.2.1
  refine ev_intro ym_X4_whatIs.1 (Nat.le_of_ble_eq_true rfl) (fun hv hσ K S => ?_)
  have hv := hv
  show K 0 [some (kr 0), some (ki d), some (ki w)] [] σ
  refine ks_aload_n (n := 1) S dX4_whatIs_0 rfl rfl ?_
  refine ks_getr (n := 4) S dX4_whatIs_1 rfl fl_X4_10 rfl rfl ?_
  refine ks_iload_n (n := 5) S dX4_whatIs_4 rfl rfl ?_
  refine kf_v1z (n := 8) S dX4_whatIs_5 rfl ml_X4_74 ym_X0_hasDoor (ev_X0_hasDoor kq_H1 R) (by decide) kq_H1.o (Nat.le_of_ble_eq_true rfl) ?_
  refine ks_if_ne (n := 11) (tgt := 17) S dX4_whatIs_8 rfl rfl (fun h8 => ?_) (fun h8 => ?_)
  · skip
    simp only [bi_eq, bi_ne, Classical.not_not] at h8
    obtain ⟨e1, e2, e3, e4, e5, e6⟩ := R.2.2.2.1 d (by omega) (by omega)
    obtain ⟨o1, o2, o3, o4, o5, o6, o7, o8⟩ := ok.2.2.2.1 d (by omega) (by omega)
    refine ks_iload_n (n := 18) S dX4_whatIs_17 rfl rfl ?_
    refine ks_lookup S (tdf := 90) [(0, 44), (1, 67)] dX4_whatIs_18 (by decide) (by decide) rfl (And.intro (fun h18 => ?_) (fun h18_0 => (And.intro (fun h18 => ?_) (fun h18_1 => ?_))))
    · skip
      refine ks_aload_n (n := 45) S dX4_whatIs_44 rfl rfl ?_
      refine ks_aload_n (n := 46) S dX4_whatIs_45 rfl rfl ?_
      refine ks_getr (n := 49) S dX4_whatIs_46 rfl fl_X4_10 rfl rfl ?_
      refine ks_getr (n := 52) S dX4_whatIs_49 rfl fl_X4_81 kq_H1.o rfl ?_
      refine ks_iload_n (n := 53) S dX4_whatIs_52 rfl rfl ?_
      refine ks_iaload (n := 54) S dX4_whatIs_53 rfl kq_H1.a2 (by omega) ?_
      refine ks_aload_n (n := 55) S dX4_whatIs_54 rfl rfl ?_
      refine ks_getr (n := 58) S dX4_whatIs_55 rfl fl_X4_10 rfl rfl ?_
      refine ks_getr (n := 61) S dX4_whatIs_58 rfl fl_X4_90 kq_H1.o rfl ?_
      refine ks_iload_n (n := 62) S dX4_whatIs_61 rfl rfl ?_
      refine ks_iaload (n := 63) S dX4_whatIs_62 rfl kq_H1.a5 (by omega) ?_
      refine kf_v2i (n := 66) S dX4_whatIs_63 rfl ml_X4_270 ym_X4_kindsTold (ev_X4_kindsTold hM hC (by omega) (by omega)) (by decide) rfl (Nat.le_of_ble_eq_true rfl) ?_
      refine ks_iret S dX4_whatIs_66 ?_
      exact qc_a hC (by unfold A_whatIs; rw [if_neg (by omega), if_neg (by omega), if_pos (by omega), e2, e5])
    · skip
      refine ks_aload_n (n := 68) S dX4_whatIs_67 rfl rfl ?_
      refine ks_aload_n (n := 69) S dX4_whatIs_68 rfl rfl ?_
      refine ks_getr (n := 72) S dX4_whatIs_69 rfl fl_X4_10 rfl rfl ?_
      refine ks_getr (n := 75) S dX4_whatIs_72 rfl fl_X4_78 kq_H1.o rfl ?_
      refine ks_iload_n (n := 76) S dX4_whatIs_75 rfl rfl ?_
      refine ks_iaload (n := 77) S dX4_whatIs_76 rfl kq_H1.a1 (by omega) ?_
      refine ks_aload_n (n := 78) S dX4_whatIs_77 rfl rfl ?_
      refine ks_getr (n := 81) S dX4_whatIs_78 rfl fl_X4_10 rfl rfl ?_
      refine ks_getr (n := 84) S dX4_whatIs_81 rfl fl_X4_90 kq_H1.o rfl ?_
      refine ks_iload_n (n := 85) S dX4_whatIs_84 rfl rfl ?_
      refine ks_iaload (n := 86) S dX4_whatIs_85 rfl kq_H1.a5 (by omega) ?_
      refine kf_v2i (n := 89) S dX4_whatIs_86 rfl ml_X4_273 ym_X4_figuresTold (ev_X4_figuresTold hM hC (by omega)) (by decide) rfl (Nat.le_of_ble_eq_true rfl) ?_
      refine ks_iret S dX4_whatIs_89 ?_
      exact qc_a hC (by unfold A_whatIs; rw [if_neg (by omega), if_neg (by omega), if_neg (by omega), e1, e5])
    · skip
      refine ks_aload_n (n := 91) S dX4_whatIs_90 rfl rfl ?_
      refine ks_bipush (n := 93) S dX4_whatIs_91 rfl (by unfold iv; decide) ?_
      refine kf_v1i (n := 96) S dX4_whatIs_93 rfl ml_X4_51 ym_X4_refuse (ev_X4_refuse (by omega)) (by decide) rfl (Nat.le_of_ble_eq_true rfl) ?_
      refine ks_iret S dX4_whatIs_96 ?_
      first | exact qc_r hC (by omega) (by unfold A_whatIs; (repeat' split) <;> first | rfl | omega | (congr 1; omega)) | exact qc_a hC (by unfold A_whatIs; (repeat' split) <;> first | rfl | omega | (congr 1; omega))
  · skip
    simp only [bi_eq, bi_ne, Classical.not_not] at h8
    refine ks_aload_n (n := 12) S dX4_whatIs_11 rfl rfl ?_
    refine ks_iconst (n := 13) S dX4_whatIs_12 rfl (by unfold iv; decide) ?_
    refine kf_v1i (n := 16) S dX4_whatIs_13 rfl ml_X4_51 ym_X4_refuse (ev_X4_refuse (by omega)) (by decide) rfl (Nat.le_of_ble_eq_true rfl) ?_
    refine ks_iret S dX4_whatIs_16 ?_
    first | exact qc_r hC (by omega) (by unfold A_whatIs; (repeat' split) <;> first | rfl | omega | (congr 1; omega)) | exact qc_a hC (by unfold A_whatIs; (repeat' split) <;> first | rfl | omega | (congr 1; omega))
theorem ru_kf_ok {a : RW} {d w k : Int} (ok : OkR a) (hd : 0 ≤ d ∧ d < a 0) (hw : 0 ≤ w ∧ w ≤ 1) (hk : 0 ≤ k ∧ (w = 0 → k ≤ 5) ∧ k ≤ 9) : OkR (ru a (3 + 6 * d + w) k) := by
  obtain ⟨h1, h2, h3, h4, h5⟩ := ok
  refine ⟨by rw [ru_n (by omega)]; exact h1, by rw [ru_n (by omega)]; exact h2, by rw [ru_n (by omega)]; exact h3, fun q q0 q1 => ?_, fun q q0 q1 => ?_⟩
  · rw [ru_n (by omega)] at q1
    obtain ⟨t1, t2, t3, t4, t5, t6, t7, t8⟩ := h4 q q0 q1
    unfold OkD
    have e : ∀ v, 2 ≤ v → v ≤ 5 → aD (ru a (3 + 6 * d + w) k) q v = aD a q v := fun v v0 v1 => by unfold aD; exact ru_n (by omega)
    rw [e 2 (by omega) (by omega), e 3 (by omega) (by omega), e 4 (by omega) (by omega), e 5 (by omega) (by omega)]
    refine ⟨?_, ?_, t3, t4, t5, t6, t7, t8⟩
    · unfold aD ru; split
      · omega
      · exact t1
    · unfold aD ru; split
      · omega
      · exact t2
  · rw [ru_n (by omega)] at q1
    have := h5 q q0 q1
    unfold OkP aP at this ⊢
    rw [ru_n (show (57 + 3 * q + 0 : Int) ≠ 3 + 6 * d + w by omega), ru_n (show (57 + 3 * q + 1 : Int) ≠ 3 + 6 * d + w by omega), ru_n (show (57 + 3 * q + 2 : Int) ≠ 3 + 6 * d + w by omega)]
    exact this
theorem pr_whatIs {d w : Int} (hM : OkM M) (hR : RR σ M) : Ev l yX5_whatIs cX5_whatIs 5 (some .int) 4 87 [kr 38, ki d, ki w] σ (QR (A_whatIs M d w) σ) := by
  have e39 : σ 39 = M 39 := hR.1
  have ok := hM.1
  have n9 := ok.1
  have n6 := ok.2.1
  have z39 := hM.2.2.1
  have h999 := hM.2.1
  refine ev_intro ym_X5_whatIs.1 (Nat.le_of_ble_eq_true rfl) (fun hv hσ K S => ?_)
  have hv := hv
  show K 0 [some (kr 38), some (ki d), some (ki w), none, none] [] σ
  refine kq_use (fun (hd : 0 ≤ d ∧ d < M 39 0) (hw : 0 ≤ w ∧ w ≤ 1) => kq_for (α := Int × KS) (if w = 0 then 6 else 10) (fun i s => 0 ≤ i ∧ iv s.1 ∧ FrQ σ s.2 ∧ s.1 = m_bs (fun k => if w = 0 then m_rt M k (aD (M 39) d 1) (aD (M 39) d 4) else m_rt M (aD (M 39) d 0) k (aD (M 39) d 4)) i.toNat) (fun i s => K 35 [some (kr 38), some (ki d), some (ki w), some (ki s.1), some (ki i)] [] s.2) ?_) (fun lp => ?_)
  · intro i s hi inv ih
    obtain ⟨s, ρ⟩ := s
    obtain ⟨i0, his, F, hs⟩ := inv
    simp only at his F hs ⊢
    have R2 := hR.fr F
    have r39 : ρ 39 = M 39 := R2.1
    have okh : i < (if w = 0 then 6 else 10) → OkR (ru (M 39) (3 + 6 * d + w) i) := fun hlt => ru_kf_ok ok hd hw ⟨i0, fun h0 => by rw [if_pos h0] at hlt; omega, by split at hlt <;> omega⟩
    have zh : Zr (ru (M 39) (3 + 6 * d + w) i) := z39.ru (by omega)
    have b0 : ∀ j, j < 3 → ru (M 39) (3 + 6 * d + w) i j = M 39 j := fun j hj => by rw [ru_n (by omega)]
    have g4 : aD (ru (M 39) (3 + 6 * d + w) i) d 4 = aD (M 39) d 4 := by unfold aD; exact ru_n (by omega)
    have gw : m_rt M (aD (ru (M 39) (3 + 6 * d + w) i) d 0) (aD (ru (M 39) (3 + 6 * d + w) i) d 1) (aD (M 39) d 4) = if w = 0 then m_rt M i (aD (M 39) d 1) (aD (M 39) d 4) else m_rt M (aD (M 39) d 0) i (aD (M 39) d 4) := by
      by_cases h0 : w = 0
      · subst h0
        rw [if_pos rfl, show aD (ru (M 39) (3 + 6 * d + 0) i) d 0 = i from ru_s, show aD (ru (M 39) (3 + 6 * d + 0) i) d 1 = aD (M 39) d 1 from ru_n (by omega)]
      · obtain rfl : w = 1 := by omega
        rw [if_neg h0, show aD (ru (M 39) (3 + 6 * d + 1) i) d 1 = i from ru_s, show aD (ru (M 39) (3 + 6 * d + 1) i) d 0 = aD (M 39) d 0 from ru_n (by omega)]
    refine ks_iload (n := 37) S dX5_whatIs_35 rfl rfl ?_
    refine ks_iload_n (n := 38) S dX5_whatIs_37 rfl rfl ?_
    refine ks_if_ne (n := 41) (tgt := 46) S dX5_whatIs_38 rfl rfl (fun h38 => ?_) (fun h38 => ?_)
    · skip
      refine ks_bipush (n := 48) S dX5_whatIs_46 rfl (by unfold iv; decide) ?_
      refine ks_icmp_ge (n := 51) (tgt := 99) S dX5_whatIs_48 rfl rfl (fun h48 => ?_) (fun h48 => ?_)
      · skip
        refine ks_iload_n (n := 100) S dX5_whatIs_99 rfl rfl ?_
        refine ks_iret S dX5_whatIs_100 ?_
        refine qr_t hR F ?_
        unfold A_whatIs
        rw [if_neg (by omega), if_neg (by omega), hs]
        first | (rw [if_pos h38] at hi ⊢; rw [show i = 6 by omega]; simp only [h38, if_true]; rfl) | (rw [if_neg h38] at hi ⊢; rw [show i = 10 by omega]; simp only [h38, if_false]; rfl)
      · skip
        have hlt : i < (if w = 0 then 6 else 10) := by first | (rw [if_pos h38]; omega) | (rw [if_neg h38]; omega)
        refine ks_aload_n (n := 52) S dX5_whatIs_51 rfl rfl ?_
        refine ks_getr (n := 55) S dX5_whatIs_52 rfl fl_X5_9 rfl rfl ?_
        refine ks_aload_n (n := 56) S dX5_whatIs_55 rfl rfl ?_
        refine ks_getr (n := 59) S dX5_whatIs_56 rfl fl_X5_13 rfl rfl ?_
        refine kf_s2v (n := 62) S dX5_whatIs_59 rfl ml_X5_137 ym_X5_copies (ev_X5_copies rfl rfl (by decide) (by rw [r39]; exact z39) R2.2.2.2.2.2.2.2.2.1) (by decide) (Nat.le_of_ble_eq_true rfl) ?_
        rw [r39]
        refine ks_aload_n (n := 63) S dX5_whatIs_62 rfl rfl ?_
        refine ks_getr (n := 66) S dX5_whatIs_63 rfl fl_X5_13 rfl rfl ?_
        refine ks_iload_n (n := 67) S dX5_whatIs_66 rfl rfl ?_
        refine ks_iload_n (n := 68) S dX5_whatIs_67 rfl rfl ?_
        refine kf_s2i (n := 71) S dX5_whatIs_68 rfl ml_X5_48 ym_X5_ofD (ev_X5_ofD (by omega) (by omega)) (by decide) (Nat.le_of_ble_eq_true rfl) ?_
        refine ks_iload (n := 73) S dX5_whatIs_71 rfl rfl ?_
        refine ks_iastore (n := 74) S dX5_whatIs_73 rfl rfl (by omega) ?_
        rw [kq_up_sr, sr_r, sr_sr]
        refine ks_iload_n (n := 75) S dX5_whatIs_74 rfl rfl ?_
        refine ks_aload_n (n := 76) S dX5_whatIs_75 rfl rfl ?_
        refine ks_iload_n (n := 77) S dX5_whatIs_76 rfl rfl ?_
        refine ks_v1z (n := 80) S dX5_whatIs_77 rfl ml_X5_232 ym_X5_isHeatSo (ev_X5_isHeatSo hM (R2.fr (FrQ.m zh)) (by rw [sr_r]; exact okh hlt) (by rw [sr_r, b0 2 (by omega)]; exact h999) (by rw [sr_r, b0 0 (by omega)]; exact hd)) (by decide) rfl (Nat.le_of_ble_eq_true rfl) (fun r77 τ77 q77 => ?_)
        obtain ⟨w1, w2⟩ := q77
        rw [sr_r, g4, gw] at w1
        cases w1
        have F2 := (F.tr (FrQ.m zh)).tr w2
        refine ks_if_eq (n := 83) (tgt := 90) S dX5_whatIs_80 rfl rfl (fun h80 => ?_) (fun h80 => ?_)
        · skip
          simp only [bi_eq, bi_ne, Classical.not_not] at h80
          refine ks_iconst (n := 91) S dX5_whatIs_90 rfl (by unfold iv; decide) ?_
          refine ks_ior (n := 92) S dX5_whatIs_91 rfl ?_
          refine ks_istore_n (n := 93) S dX5_whatIs_92 rfl rfl (L' := fun y => [some (kr 38), some (ki d), some (ki w), some (ki y), some (ki i)]) (Nat.le_of_ble_eq_true rfl) (fun _ => rfl) (fun v3_92 hv92 => ?_)
          subst v3_92
          refine ks_iinc (n := 96) S dX5_whatIs_93 rfl rfl (by omega) (L' := fun y => [some (kr 38), some (ki d), some (ki w), some (ki _), some (ki y)]) (fun _ => rfl) (fun v4_93 hv93 => ?_)
          subst v4_93
          refine ks_goto (n := 35) S dX5_whatIs_96 rfl ?_
          refine ih (_, τ77) hlt ⟨by omega, iv_to _, F2, ?_⟩
          dsimp only
          rw [m_bs_s i0, ← hs]
          first | (rw [if_neg h80]; exact ib_or_0 his) | (rw [if_pos h80]; rfl)
        · skip
          simp only [bi_eq, bi_ne, Classical.not_not] at h80
          refine ks_iconst (n := 84) S dX5_whatIs_83 rfl (by unfold iv; decide) ?_
          refine ks_iload (n := 86) S dX5_whatIs_84 rfl rfl ?_
          refine ks_ishl (n := 87) S dX5_whatIs_86 rfl ?_
          refine ks_goto (n := 91) S dX5_whatIs_87 rfl ?_
          refine ks_ior (n := 92) S dX5_whatIs_91 rfl ?_
          refine ks_istore_n (n := 93) S dX5_whatIs_92 rfl rfl (L' := fun y => [some (kr 38), some (ki d), some (ki w), some (ki y), some (ki i)]) (Nat.le_of_ble_eq_true rfl) (fun _ => rfl) (fun v3_92 hv92 => ?_)
          subst v3_92
          refine ks_iinc (n := 96) S dX5_whatIs_93 rfl rfl (by omega) (L' := fun y => [some (kr 38), some (ki d), some (ki w), some (ki _), some (ki y)]) (fun _ => rfl) (fun v4_93 hv93 => ?_)
          subst v4_93
          refine ks_goto (n := 35) S dX5_whatIs_96 rfl ?_
          refine ih (_, τ77) hlt ⟨by omega, iv_to _, F2, ?_⟩
          dsimp only
          rw [m_bs_s i0, ← hs]
          first | (rw [if_neg h80]; exact ib_or_0 his) | (rw [if_pos h80]; rfl)
    · skip
      refine ks_bipush (n := 43) S dX5_whatIs_41 rfl (by unfold iv; decide) ?_
      refine ks_goto (n := 48) S dX5_whatIs_43 rfl ?_
      refine ks_icmp_ge (n := 51) (tgt := 99) S dX5_whatIs_48 rfl rfl (fun h48 => ?_) (fun h48 => ?_)
      · skip
        refine ks_iload_n (n := 100) S dX5_whatIs_99 rfl rfl ?_
        refine ks_iret S dX5_whatIs_100 ?_
        refine qr_t hR F ?_
        unfold A_whatIs
        rw [if_neg (by omega), if_neg (by omega), hs]
        first | (rw [if_pos h38] at hi ⊢; rw [show i = 6 by omega]; simp only [h38, if_true]; rfl) | (rw [if_neg h38] at hi ⊢; rw [show i = 10 by omega]; simp only [h38, if_false]; rfl)
      · skip
        have hlt : i < (if w = 0 then 6 else 10) := by first | (rw [if_pos h38]; omega) | (rw [if_neg h38]; omega)
        refine ks_aload_n (n := 52) S dX5_whatIs_51 rfl rfl ?_
        refine ks_getr (n := 55) S dX5_whatIs_52 rfl fl_X5_9 rfl rfl ?_
        refine ks_aload_n (n := 56) S dX5_whatIs_55 rfl rfl ?_
        refine ks_getr (n := 59) S dX5_whatIs_56 rfl fl_X5_13 rfl rfl ?_
        refine kf_s2v (n := 62) S dX5_whatIs_59 rfl ml_X5_137 ym_X5_copies (ev_X5_copies rfl rfl (by decide) (by rw [r39]; exact z39) R2.2.2.2.2.2.2.2.2.1) (by decide) (Nat.le_of_ble_eq_true rfl) ?_
        rw [r39]
        refine ks_aload_n (n := 63) S dX5_whatIs_62 rfl rfl ?_
        refine ks_getr (n := 66) S dX5_whatIs_63 rfl fl_X5_13 rfl rfl ?_
        refine ks_iload_n (n := 67) S dX5_whatIs_66 rfl rfl ?_
        refine ks_iload_n (n := 68) S dX5_whatIs_67 rfl rfl ?_
        refine kf_s2i (n := 71) S dX5_whatIs_68 rfl ml_X5_48 ym_X5_ofD (ev_X5_ofD (by omega) (by omega)) (by decide) (Nat.le_of_ble_eq_true rfl) ?_
        refine ks_iload (n := 73) S dX5_whatIs_71 rfl rfl ?_
        refine ks_iastore (n := 74) S dX5_whatIs_73 rfl rfl (by omega) ?_
        rw [kq_up_sr, sr_r, sr_sr]
        refine ks_iload_n (n := 75) S dX5_whatIs_74 rfl rfl ?_
        refine ks_aload_n (n := 76) S dX5_whatIs_75 rfl rfl ?_
        refine ks_iload_n (n := 77) S dX5_whatIs_76 rfl rfl ?_
        refine ks_v1z (n := 80) S dX5_whatIs_77 rfl ml_X5_232 ym_X5_isHeatSo (ev_X5_isHeatSo hM (R2.fr (FrQ.m zh)) (by rw [sr_r]; exact okh hlt) (by rw [sr_r, b0 2 (by omega)]; exact h999) (by rw [sr_r, b0 0 (by omega)]; exact hd)) (by decide) rfl (Nat.le_of_ble_eq_true rfl) (fun r77 τ77 q77 => ?_)
        obtain ⟨w1, w2⟩ := q77
        rw [sr_r, g4, gw] at w1
        cases w1
        have F2 := (F.tr (FrQ.m zh)).tr w2
        refine ks_if_eq (n := 83) (tgt := 90) S dX5_whatIs_80 rfl rfl (fun h80 => ?_) (fun h80 => ?_)
        · skip
          simp only [bi_eq, bi_ne, Classical.not_not] at h80
          refine ks_iconst (n := 91) S dX5_whatIs_90 rfl (by unfold iv; decide) ?_
          refine ks_ior (n := 92) S dX5_whatIs_91 rfl ?_
          refine ks_istore_n (n := 93) S dX5_whatIs_92 rfl rfl (L' := fun y => [some (kr 38), some (ki d), some (ki w), some (ki y), some (ki i)]) (Nat.le_of_ble_eq_true rfl) (fun _ => rfl) (fun v3_92 hv92 => ?_)
          subst v3_92
          refine ks_iinc (n := 96) S dX5_whatIs_93 rfl rfl (by omega) (L' := fun y => [some (kr 38), some (ki d), some (ki w), some (ki _), some (ki y)]) (fun _ => rfl) (fun v4_93 hv93 => ?_)
          subst v4_93
          refine ks_goto (n := 35) S dX5_whatIs_96 rfl ?_
          refine ih (_, τ77) hlt ⟨by omega, iv_to _, F2, ?_⟩
          dsimp only
          rw [m_bs_s i0, ← hs]
          first | (rw [if_neg h80]; exact ib_or_0 his) | (rw [if_pos h80]; rfl)
        · skip
          simp only [bi_eq, bi_ne, Classical.not_not] at h80
          refine ks_iconst (n := 84) S dX5_whatIs_83 rfl (by unfold iv; decide) ?_
          refine ks_iload (n := 86) S dX5_whatIs_84 rfl rfl ?_
          refine ks_ishl (n := 87) S dX5_whatIs_86 rfl ?_
          refine ks_goto (n := 91) S dX5_whatIs_87 rfl ?_
          refine ks_ior (n := 92) S dX5_whatIs_91 rfl ?_
          refine ks_istore_n (n := 93) S dX5_whatIs_92 rfl rfl (L' := fun y => [some (kr 38), some (ki d), some (ki w), some (ki y), some (ki i)]) (Nat.le_of_ble_eq_true rfl) (fun _ => rfl) (fun v3_92 hv92 => ?_)
          subst v3_92
          refine ks_iinc (n := 96) S dX5_whatIs_93 rfl rfl (by omega) (L' := fun y => [some (kr 38), some (ki d), some (ki w), some (ki _), some (ki y)]) (fun _ => rfl) (fun v4_93 hv93 => ?_)
          subst v4_93
          refine ks_goto (n := 35) S dX5_whatIs_96 rfl ?_
          refine ih (_, τ77) hlt ⟨by omega, iv_to _, F2, ?_⟩
          dsimp only
          rw [m_bs_s i0, ← hs]
          first | (rw [if_neg h80]; exact ib_or_0 his) | (rw [if_pos h80]; rfl)
  refine ks_aload_n (n := 1) S dX5_whatIs_0 rfl rfl ?_
  refine ks_iload_n (n := 2) S dX5_whatIs_1 rfl rfl ?_
  refine kf_v1z (n := 5) S dX5_whatIs_2 rfl ml_X5_120 ym_X5_isDoor (ev_X5_isDoor (by rw [e39]; exact n9)) (by decide) rfl (Nat.le_of_ble_eq_true rfl) ?_
  refine ks_if_ne (n := 8) (tgt := 14) S dX5_whatIs_5 rfl rfl (fun h5 => ?_) (fun h5 => ?_)
  · skip
    simp only [bi_eq, bi_ne, e39] at h5
    refine ks_iload_n (n := 15) S dX5_whatIs_14 rfl rfl ?_
    refine ks_iconst (n := 16) S dX5_whatIs_15 rfl (by unfold iv; decide) ?_
    refine ks_iconst (n := 17) S dX5_whatIs_16 rfl (by unfold iv; decide) ?_
    refine kf_s3z (n := 20) S dX5_whatIs_17 rfl ml_X5_44 ym_X5_isIn (ev_X5_isIn) (by decide) (Nat.le_of_ble_eq_true rfl) ?_
    refine ks_if_ne (n := 23) (tgt := 30) S dX5_whatIs_20 rfl rfl (fun h20 => ?_) (fun h20 => ?_)
    · skip
      simp only [bi_eq, bi_ne, Classical.not_not] at h20
      refine ks_iconst (n := 31) S dX5_whatIs_30 rfl (by unfold iv; decide) ?_
      refine ks_istore_n (n := 32) S dX5_whatIs_31 rfl rfl (L' := fun y => [some (kr 38), some (ki d), some (ki w), some (ki y), none]) (Nat.le_of_ble_eq_true rfl) (fun _ => rfl) (fun v3_31 hv31 => ?_)
      obtain rfl : v3_31 = 0 := by omega
      refine ks_iconst (n := 33) S dX5_whatIs_32 rfl (by unfold iv; decide) ?_
      refine ks_istore (n := 35) S dX5_whatIs_33 rfl (L' := fun y => [some (kr 38), some (ki d), some (ki w), some (ki (0)), some (ki y)]) (Nat.le_of_ble_eq_true rfl) (fun _ => rfl) (fun v4_33 hv33 => ?_)
      obtain rfl : v4_33 = 0 := by omega
      exact lp (by omega) (by omega) 0 (0, σ) (by split <;> omega) ⟨by omega, iv_0, FrQ.rf hR.2.2.2.2.2.2.2.2.1, rfl⟩
    · skip
      simp only [bi_eq, bi_ne, Classical.not_not] at h20
      refine ks_aload_n (n := 24) S dX5_whatIs_23 rfl rfl ?_
      refine ks_bipush (n := 26) S dX5_whatIs_24 rfl (by unfold iv; decide) ?_
      refine kf_v1i (n := 29) S dX5_whatIs_26 rfl ml_X5_38 ym_X5_no (ev_X5_no (by omega)) (by decide) rfl (Nat.le_of_ble_eq_true rfl) ?_
      refine ks_iret S dX5_whatIs_29 ?_
      exact qr_r hR (by unfold A_whatIs; (repeat' split) <;> first | rfl | omega)
  · skip
    simp only [bi_eq, bi_ne, e39] at h5
    refine ks_aload_n (n := 9) S dX5_whatIs_8 rfl rfl ?_
    refine ks_iconst (n := 10) S dX5_whatIs_9 rfl (by unfold iv; decide) ?_
    refine kf_v1i (n := 13) S dX5_whatIs_10 rfl ml_X5_38 ym_X5_no (ev_X5_no (by omega)) (by decide) rfl (Nat.le_of_ble_eq_true rfl) ?_
    refine ks_iret S dX5_whatIs_13 ?_
    exact qr_r hR (by unfold A_whatIs; (repeat' split) <;> first | rfl | omega)
end PUB6

