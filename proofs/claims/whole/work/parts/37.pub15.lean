section PUB15
variable {l : Launch} {σ M : KS}
theorem m_rn_c2 {a a' g g' T : RW} : ∀ n : Nat, (∀ d, 0 ≤ d → d < (n : Int) → aD a' d 2 = aD a d 2 ∧ aD a' d 3 = aD a d 3 ∧ g' d = g d) → m_rn a' g' T n = m_rn a g T n := by
  intro n
  induction n with
  | zero => intro _; rfl
  | succ n ih =>
    intro h
    show m_rx (m_rn a' g' T n) _ _ (g' n) = m_rx (m_rn a g T n) _ _ (g n)
    obtain ⟨h1, h2, h3⟩ := h n (by omega) (by omega)
    rw [ih (fun d d0 d1 => h d d0 (by omega)), h1, h2, h3]
theorem m_tl_c2 {a a' g g' : RW} {room : Int} (n0 : 0 ≤ a 0) (h0 : a' 0 = a 0) (h : ∀ d, 0 ≤ d → d < a 0 → aD a' d 2 = aD a d 2 ∧ aD a' d 3 = aD a d 3 ∧ g' d = g d) : m_tl a' g' room = m_tl a g room := by
  have key : ∀ n : Nat, m_rr a' g' (m_T0 room) n = m_rr a g (m_T0 room) n := by
    intro n
    induction n with
    | zero => rfl
    | succ n ih =>
      show m_rn a' g' (m_rr a' g' (m_T0 room) n) _ = m_rn a g (m_rr a g (m_T0 room) n) _
      rw [ih, h0]
      exact m_rn_c2 _ (fun d d0 d1 => h d d0 (by omega))
  exact key 7
theorem m_tl_pass {a b : RW} {n room : Int} (ok : OkR a) (hb : PassOf a n b) : m_tl b (m_gv b) room = m_tl a (m_ga a n) room := by
  refine m_tl_c2 ok.1.1 hb.1 (fun d d0 d1 => ?_)
  obtain ⟨p1, p2, p3, p4, p5, p6⟩ := hb.2.2.2.1 d d0 d1
  refine ⟨p3, p4, ?_⟩
  unfold m_gv m_ga
  rw [p1, p2, p5]
theorem m_fi_none {p : Int → Bool} : ∀ (k : Nat) (i : Int), (∀ j, i ≤ j → j < i + k → ¬ p j = true) → m_fi p k i = -9 := by
  intro k
  induction k with
  | zero => intro i _; rfl
  | succ k ih =>
    intro i h
    show (if p i = true then i else m_fi p k (i + 1)) = -9
    rw [if_neg (h i (by omega) (by omega))]
    exact ih (i + 1) (fun j h1 h2 => h j (by omega) (by omega))
def m_pv (a : RW) (o f n : Int) : Int := m_gi (m_tl a (m_ga a n) o f)
theorem m_pv_rg {a : RW} {o f n : Int} (ok : OkR a) (ho : 0 ≤ o ∧ o < 7) (hf : 0 ≤ f ∧ f < 7) (hn : 0 ≤ n) : m_rg (m_tl a (m_ga a n) o f) := (m_PI_tl ok (fun d d0 d1 => (m_ga_b ok hn ⟨d0, d1⟩).2) ho).rg hf
theorem m_pv_b {a : RW} {o f n : Int} (ok : OkR a) (ho : 0 ≤ o ∧ o < 7) (hf : 0 ≤ f ∧ f < 7) (hn : 0 ≤ n) : m_pv a o f n = -9 ∨ (0 ≤ m_pv a o f n ∧ m_pv a o f n ≤ 648) := m_gi_b (m_pv_rg ok ho hf hn)
theorem m_pv_f {a : RW} {o f n k : Int} (ok : OkR a) (ho : 0 ≤ o ∧ o < 7) (hf : 0 ≤ f ∧ f < 7) (hn : 0 ≤ n) (hk : 0 ≤ k) : m_pv a o f n < 0 ↔ m_pv a o f k < 0 := by
  have hg : ∀ e, 0 ≤ e → e < a 0 → m_ga a n e ≤ 108 ∧ m_ga a k e ≤ 108 ∧ (m_ga a n e < 0 ↔ m_ga a k e < 0) := fun e e0 e1 => by
    have := m_ga_b ok hn ⟨e0, e1⟩
    have := m_ga_b ok hk ⟨e0, e1⟩
    omega
  unfold m_pv
  rw [(m_gi_9 (m_pv_rg ok ho hf hn)).2, (m_gi_9 (m_pv_rg ok ho hf hk)).2, m_FE_tl ok ho hg f hf.1 hf.2]
def m_pp (a : RW) (o f v n : Int) : Bool := decide (0 ≤ m_pv a o f n ∧ m_pv a o f n ≤ v)
def A_pause (M : KS) (p o v : Int) : Int × KS := if ¬ ((0 ≤ p ∧ p ≤ M 39 1 - 1) ∧ (0 ≤ o ∧ o ≤ 6)) then (-1, rfM M (-1)) else if v < 0 then (-4, rfM M (-4)) else if 99 < v then (-6, rfM M (-6)) else (m_fi (m_pp (M 39) o (aP (M 39) p 1) v) 61 0, M)
theorem pc_pause {p o v : Int} (hM : OkM M) (hC : RC σ M) : Ev l yX4_pause cX4_pause 7 (some .int) 5 116 [kr 0, ki p, ki o, ki v] σ (QC (A_pause M p o v) σ) := by
  have R := hC.1
  have ok := hM.1
  have n9 := ok.1
  have n6 := ok.2.1
  refine ev_intro ym_X4_pause.1 (Nat.le_of_ble_eq_true rfl) (fun hv hσ K S => ?_)
  have hv := hv
  show K 0 [some (kr 0), some (ki p), some (ki o), some (ki v), none, none, none] [] σ
  refine kq_use (fun (hp : 0 ≤ p ∧ p < M 39 1) (ho : 0 ≤ o ∧ o < 7) (hv9 : 0 ≤ v ∧ v ≤ 99) => kq_for (α := KS) 61 (fun i τ => 0 ≤ i ∧ FrT σ τ ∧ m_fi (m_pp (M 39) o (aP (M 39) p 1) v) 61 0 = m_fi (m_pp (M 39) o (aP (M 39) p 1) v) (61 - i).toNat i) (fun i τ => K 48 [some (kr 0), some (ki p), some (ki o), some (ki v), some (ki 0), some (ki i), none] [] τ) ?_) (fun lp => ?_)
  · intro i τ hi inv ih
    obtain ⟨i0, F, hd⟩ := inv
    have op := ok.2.2.2.2 p hp.1 hp.2
    unfold OkP at op
    have hrp : 0 ≤ aP (M 39) p 1 ∧ aP (M 39) p 1 < 7 := by omega
    generalize hf : aP (M 39) p 1 = f at *
    have hrg := m_pv_rg ok ho hrp i0
    have hfb := m_f_b hrg
    have hpb := m_pv_b ok ho hrp i0
    have hR0 := hC.fr F
    refine ks_iload (n := 50) S dX4_pause_48 rfl rfl ?_
    refine ks_bipush (n := 52) S dX4_pause_50 rfl (by unfold iv; decide) ?_
    refine ks_icmp_gt (n := 55) (tgt := 105) S dX4_pause_52 rfl rfl (fun h52 => ?_) (fun h52 => ?_)
    · skip
      refine ks_bipush (n := 107) S dX4_pause_105 rfl (by unfold iv; decide) ?_
      refine ks_iret S dX4_pause_107 ?_
      refine qc_t hC F ?_
      unfold A_pause
      rw [if_neg (by omega), if_neg (by omega), if_neg (by omega), hf, hd, m_fi_0 (by omega)]
    · skip
      refine ks_aload_n (n := 56) S dX4_pause_55 rfl rfl ?_
      refine ks_iload_n (n := 57) S dX4_pause_56 rfl rfl ?_
      refine ks_iload (n := 59) S dX4_pause_57 rfl rfl ?_
      refine ks_v2v (n := 62) S dX4_pause_59 rfl ml_X4_164 ym_X4_findWaysTo (ev_X4_findWaysTo (g := m_ga (M 39) i) hM hR0 ho (by omega) (fun d d0 d1 => rfl)) (by decide) rfl (Nat.le_of_ble_eq_true rfl) (fun τ59 q59 => ?_)
      obtain ⟨q1, F1, hP, hgd⟩ := q59
      have F2 := F.tr F1
      have f1 := ((hC.fr F2).1.2.2.2.2 p hp.1 hp.2).2.1
      rw [hf] at f1
      have hpo : τ59 35 f = m_f (m_tl (M 39) (m_ga (M 39) i) o f) := hP f hrp.1 hrp.2
      have hv : (if 1000000 ≤ τ59 35 f then -9 else τ59 35 f / 16) = m_pv (M 39) o f i := by rw [hpo, m_f_gi hrg]; rfl
      refine ks_aload_n (n := 63) S dX4_pause_62 rfl rfl ?_
      refine ks_getr (n := 66) S dX4_pause_63 rfl fl_X4_36 rfl rfl ?_
      refine ks_aload_n (n := 67) S dX4_pause_66 rfl rfl ?_
      refine ks_getr (n := 70) S dX4_pause_67 rfl fl_X4_10 rfl rfl ?_
      refine ks_getr (n := 73) S dX4_pause_70 rfl fl_X4_105 kq_H1.o rfl ?_
      refine ks_iload_n (n := 74) S dX4_pause_73 rfl rfl ?_
      refine ks_iaload (n := 75) S dX4_pause_74 rfl kq_H1.a8 (by omega) ?_
      rw [f1]
      refine kf_v1i (n := 78) S dX4_pause_75 rfl ml_X4_167 ym_X3_givenFrom (ev_X3_givenFrom hrp (by omega)) (by decide) rfl (Nat.le_of_ble_eq_true rfl) ?_
      rw [hv]
      refine ks_istore (n := 80) S dX4_pause_78 rfl (L' := fun yy => [some (kr 0), some (ki p), some (ki o), some (ki v), some (ki 0), some (ki i), some (ki yy)]) (Nat.le_of_ble_eq_true rfl) (fun _ => rfl) (fun v6_78 hv78 => ?_)
      subst v6_78
      refine ks_iload (n := 82) S dX4_pause_80 rfl rfl ?_
      refine ks_bipush (n := 84) S dX4_pause_82 rfl (by unfold iv; decide) ?_
      refine ks_icmp_ne (n := 87) (tgt := 90) S dX4_pause_84 rfl rfl (fun h84 => ?_) (fun h84 => ?_)
      · skip
        refine ks_iload (n := 92) S dX4_pause_90 rfl rfl ?_
        refine ks_iload_n (n := 93) S dX4_pause_92 rfl rfl ?_
        refine ks_icmp_gt (n := 96) (tgt := 99) S dX4_pause_93 rfl rfl (fun h93 => ?_) (fun h93 => ?_)
        · skip
          refine ks_iinc (n := 102) S dX4_pause_99 rfl rfl (by omega) (L' := fun yy => [some (kr 0), some (ki p), some (ki o), some (ki v), some (ki 0), some (ki yy), some (ki _)]) (fun _ => rfl) (fun v5_99 hv99 => ?_)
          subst v5_99
          refine ks_goto (n := 48) S dX4_pause_102 rfl ?_
          refine ks_weak (L' := [some (kr 0), some (ki p), some (ki o), some (ki v), some (ki 0), some (ki _), none]) S ((And.intro rfl (And.intro rfl (And.intro rfl (And.intro rfl (And.intro rfl (And.intro rfl True.intro))))))) ?_
          refine ih _ (by omega) ⟨by omega, F2, ?_⟩
          rw [hd, m_fi_s (by omega), if_neg]
          unfold m_pp
          rw [decide_eq_true_eq]
          omega
        · skip
          refine ks_iload (n := 98) S dX4_pause_96 rfl rfl ?_
          refine ks_iret S dX4_pause_98 ?_
          refine qc_t hC F2 ?_
          unfold A_pause
          rw [if_neg (by omega), if_neg (by omega), if_neg (by omega), hf, hd, m_fi_s (by omega), if_pos]
          unfold m_pp
          rw [decide_eq_true_eq]
          omega
      · skip
        refine ks_bipush (n := 89) S dX4_pause_87 rfl (by unfold iv; decide) ?_
        refine ks_iret S dX4_pause_89 ?_
        refine qc_t hC F2 ?_
        unfold A_pause
        rw [if_neg (by omega), if_neg (by omega), if_neg (by omega), hf, hd, m_fi_none]
        intro j j0 j1
        have := m_pv_f (n := i) (k := j) ok ho hrp i0 (by omega)
        unfold m_pp
        rw [decide_eq_true_eq]
        omega
  refine ks_aload_n (n := 1) S dX4_pause_0 rfl rfl ?_
  refine ks_getr (n := 4) S dX4_pause_1 rfl fl_X4_10 rfl rfl ?_
  refine ks_iload_n (n := 5) S dX4_pause_4 rfl rfl ?_
  refine kf_v1z (n := 8) S dX4_pause_5 rfl ml_X4_99 ym_X0_hasPerson (ev_X0_hasPerson kq_H1 R) (by decide) kq_H1.o (Nat.le_of_ble_eq_true rfl) ?_
  refine ks_if_eq (n := 11) (tgt := 18) S dX4_pause_8 rfl rfl (fun h8 => ?_) (fun h8 => ?_)
  · skip
    simp only [bi_eq, bi_ne, Classical.not_not] at h8
    refine ks_aload_n (n := 19) S dX4_pause_18 rfl rfl ?_
    refine ks_iconst (n := 20) S dX4_pause_19 rfl (by unfold iv; decide) ?_
    refine kf_v1i (n := 23) S dX4_pause_20 rfl ml_X4_51 ym_X4_refuse (ev_X4_refuse (by omega)) (by decide) rfl (Nat.le_of_ble_eq_true rfl) ?_
    refine ks_iret S dX4_pause_23 ?_
    exact qc_r hC (by omega) (by unfold A_pause; rw [if_pos (by omega)])
  · skip
    simp only [bi_eq, bi_ne, Classical.not_not] at h8
    refine ks_iload_n (n := 12) S dX4_pause_11 rfl rfl ?_
    refine kf_s1z (n := 15) S dX4_pause_12 rfl ml_X4_130 ym_X4_isRoom (ev_X4_isRoom) (by decide) (Nat.le_of_ble_eq_true rfl) ?_
    refine ks_if_ne (n := 18) (tgt := 24) S dX4_pause_15 rfl rfl (fun h15 => ?_) (fun h15 => ?_)
    · skip
      simp only [bi_eq, bi_ne, Classical.not_not] at h15
      refine ks_iload_n (n := 25) S dX4_pause_24 rfl rfl ?_
      refine ks_iconst (n := 26) S dX4_pause_25 rfl (by unfold iv; decide) ?_
      refine ks_bipush (n := 28) S dX4_pause_26 rfl (by unfold iv; decide) ?_
      refine kf_s3i (n := 31) S dX4_pause_28 rfl ml_X4_122 ym_X4_outside (ev_X4_outside) (by decide) (Nat.le_of_ble_eq_true rfl) ?_
      rcases m_out v 0 99 with ⟨hc28, hw28⟩ | ⟨hc28, hd28, hw28⟩ | ⟨hc28, hd28, hw28⟩
      · skip
        rw [hw28]
        refine ks_istore (n := 33) S dX4_pause_31 rfl (L' := fun yy => [some (kr 0), some (ki p), some (ki o), some (ki v), some (ki yy), none, none]) (Nat.le_of_ble_eq_true rfl) (fun _ => rfl) (fun v4_31 hv31 => ?_)
        obtain rfl : v4_31 = -4 := by omega
        refine ks_iload (n := 35) S dX4_pause_33 rfl rfl ?_
        refine ks_if_ge (n := 38) (tgt := 45) S dX4_pause_35 rfl rfl (fun h35 => ?_) (fun h35 => ?_)
        · omega
        refine ks_aload_n (n := 39) S dX4_pause_38 rfl rfl ?_
        refine ks_iload (n := 41) S dX4_pause_39 rfl rfl ?_
        refine kf_v1i (n := 44) S dX4_pause_41 rfl ml_X4_51 ym_X4_refuse (ev_X4_refuse (by omega)) (by decide) rfl (Nat.le_of_ble_eq_true rfl) ?_
        refine ks_iret S dX4_pause_44 ?_
        first | exact qc_r hC (by omega) (by unfold A_pause; rw [if_neg (by omega), if_pos (by omega)]) | exact qc_r hC (by omega) (by unfold A_pause; rw [if_neg (by omega), if_neg (by omega), if_pos (by omega)])
      · skip
        rw [hw28]
        refine ks_istore (n := 33) S dX4_pause_31 rfl (L' := fun yy => [some (kr 0), some (ki p), some (ki o), some (ki v), some (ki yy), none, none]) (Nat.le_of_ble_eq_true rfl) (fun _ => rfl) (fun v4_31 hv31 => ?_)
        obtain rfl : v4_31 = -6 := by omega
        refine ks_iload (n := 35) S dX4_pause_33 rfl rfl ?_
        refine ks_if_ge (n := 38) (tgt := 45) S dX4_pause_35 rfl rfl (fun h35 => ?_) (fun h35 => ?_)
        · omega
        refine ks_aload_n (n := 39) S dX4_pause_38 rfl rfl ?_
        refine ks_iload (n := 41) S dX4_pause_39 rfl rfl ?_
        refine kf_v1i (n := 44) S dX4_pause_41 rfl ml_X4_51 ym_X4_refuse (ev_X4_refuse (by omega)) (by decide) rfl (Nat.le_of_ble_eq_true rfl) ?_
        refine ks_iret S dX4_pause_44 ?_
        first | exact qc_r hC (by omega) (by unfold A_pause; rw [if_neg (by omega), if_pos (by omega)]) | exact qc_r hC (by omega) (by unfold A_pause; rw [if_neg (by omega), if_neg (by omega), if_pos (by omega)])
      · skip
        rw [hw28]
        refine ks_istore (n := 33) S dX4_pause_31 rfl (L' := fun yy => [some (kr 0), some (ki p), some (ki o), some (ki v), some (ki yy), none, none]) (Nat.le_of_ble_eq_true rfl) (fun _ => rfl) (fun v4_31 hv31 => ?_)
        obtain rfl : v4_31 = 0 := by omega
        refine ks_iload (n := 35) S dX4_pause_33 rfl rfl ?_
        refine ks_if_ge (n := 38) (tgt := 45) S dX4_pause_35 rfl rfl (fun h35 => ?_) (fun h35 => ?_)
        rotate_left
        · omega
        refine ks_iconst (n := 46) S dX4_pause_45 rfl (by unfold iv; decide) ?_
        refine ks_istore (n := 48) S dX4_pause_46 rfl (L' := fun yy => [some (kr 0), some (ki p), some (ki o), some (ki v), some (ki (0)), some (ki yy), none]) (Nat.le_of_ble_eq_true rfl) (fun _ => rfl) (fun v5_46 hv46 => ?_)
        obtain rfl : v5_46 = 0 := by omega
        exact lp (by omega) (by omega) (by omega) 0 _ (by omega) ⟨by omega, FrT.rf, rfl⟩
    · skip
      simp only [bi_eq, bi_ne, Classical.not_not] at h15
      refine ks_aload_n (n := 19) S dX4_pause_18 rfl rfl ?_
      refine ks_iconst (n := 20) S dX4_pause_19 rfl (by unfold iv; decide) ?_
      refine kf_v1i (n := 23) S dX4_pause_20 rfl ml_X4_51 ym_X4_refuse (ev_X4_refuse (by omega)) (by decide) rfl (Nat.le_of_ble_eq_true rfl) ?_
      refine ks_iret S dX4_pause_23 ?_
      exact qc_r hC (by omega) (by unfold A_pause; rw [if_pos (by omega)])
theorem pr_pause {p o v : Int} (hM : OkM M) (hR : RR σ M) : Ev l yX5_pause cX5_pause 7 (some .int) 5 116 [kr 38, ki p, ki o, ki v] σ (QR (A_pause M p o v) σ) := by
  have e39 : σ 39 = M 39 := hR.1
  have ok : OkR (σ 39) := by rw [e39]; exact hM.1
  have n9 := ok.1
  have n6 := ok.2.1
  have z40 := hR.2.2.2.2.2.2.2.2.1
  have z39 : Zr (σ 39) := by rw [e39]; exact hM.2.2.1
  have a2 : σ 39 2 ≤ 999 := by rw [e39]; exact hM.2.1
  refine ev_intro ym_X5_pause.1 (Nat.le_of_ble_eq_true rfl) (fun hv hσ K S => ?_)
  have hv := hv
  show K 0 [some (kr 38), some (ki p), some (ki o), some (ki v), none, none, none] [] σ
  refine kq_use (fun (hp : 0 ≤ p ∧ p < σ 39 1) (ho : 0 ≤ o ∧ o < 7) (hv9 : 0 ≤ v ∧ v ≤ 99) => kq_for (α := KS) 61 (fun i τ => 0 ≤ i ∧ FrQ σ τ ∧ τ 40 = m_hours (σ 39) i.toNat ∧ m_fi (m_pp (σ 39) o (aP (σ 39) p 1) v) 61 0 = m_fi (m_pp (σ 39) o (aP (σ 39) p 1) v) (61 - i).toNat i) (fun i τ => K 48 [some (kr 38), some (ki p), some (ki o), some (ki v), some (ki 0), some (ki i), none] [] τ) ?_) (fun lp => ?_)
  · intro i τ hi inv ih
    obtain ⟨i0, F, h40, hd⟩ := inv
    have op := ok.2.2.2.2 p hp.1 hp.2
    unfold OkP at op
    have hrp : 0 ≤ aP (σ 39) p 1 ∧ aP (σ 39) p 1 < 7 := by omega
    have f39 : τ 39 = σ 39 := F.1 39 (by omega)
    have f1 : τ 39 (57 + 3 * p + 1) = aP (σ 39) p 1 := by rw [f39]; rfl
    generalize hf : aP (σ 39) p 1 = f at *
    have hpb := m_pv_b ok ho hrp i0
    have n6' : τ 39 1 = σ 39 1 := by rw [f39]
    obtain ⟨hps, hok⟩ := m_hours_pass ok i.toNat (by omega)
    rw [← h40] at hps hok
    rw [Int.toNat_of_nonneg i0] at hps
    have z2 := m_hours_z ok z39 (i + 1).toNat
    rw [m_hours_succ i0, ← h40] at z2 ih
    refine ks_iload (n := 50) S dX5_pause_48 rfl rfl ?_
    refine ks_bipush (n := 52) S dX5_pause_50 rfl (by unfold iv; decide) ?_
    refine ks_icmp_gt (n := 55) (tgt := 105) S dX5_pause_52 rfl rfl (fun h52 => ?_) (fun h52 => ?_)
    · skip
      refine ks_bipush (n := 107) S dX5_pause_105 rfl (by unfold iv; decide) ?_
      refine ks_iret S dX5_pause_107 ?_
      refine qr_t hR F ?_
      unfold A_pause
      rw [← e39, if_neg (by omega), if_neg (by omega), if_neg (by omega), hf, hd, m_fi_0 (by omega)]
    · skip
      refine ks_aload_n (n := 56) S dX5_pause_55 rfl rfl ?_
      refine ks_aload_n (n := 57) S dX5_pause_56 rfl rfl ?_
      refine ks_getr (n := 60) S dX5_pause_57 rfl fl_X5_13 rfl rfl ?_
      refine ks_aload_n (n := 61) S dX5_pause_60 rfl rfl ?_
      refine ks_getr (n := 64) S dX5_pause_61 rfl fl_X5_9 rfl rfl ?_
      refine ks_iload_n (n := 65) S dX5_pause_64 rfl rfl ?_
      refine ks_iconst (n := 66) S dX5_pause_65 rfl (by unfold iv; decide) ?_
      refine kf_s2i (n := 69) S dX5_pause_66 rfl ml_X5_55 ym_X5_ofP (ev_X5_ofP (by omega) (by omega)) (by decide) (Nat.le_of_ble_eq_true rfl) ?_
      refine ks_iaload (n := 70) S dX5_pause_69 rfl rfl (by omega) ?_
      rw [f1]
      refine ks_iload_n (n := 71) S dX5_pause_70 rfl rfl ?_
      refine ks_bipush (n := 73) S dX5_pause_71 rfl (by unfold iv; decide) ?_
      refine ks_v4i (n := 76) S dX5_pause_73 rfl ml_X5_184 ym_X5_givenBy (ev_X5_givenBy rfl (by decide) hok hrp ho) (by decide) rfl (Nat.le_of_ble_eq_true rfl) (fun r73 τ73 q73 => ?_)
      obtain ⟨q1, F3⟩ := q73
      have q1 := kq_si q1
      rw [m_tl_9 hok, m_tl_pass ok hps] at q1
      replace q1 : r73 = m_pv (σ 39) o f i := q1
      have F4 := F.tr (FrQ.t47 F3 F.2.2.2.2)
      have g40 : τ73 40 = τ 40 := F3 40 (by decide)
      refine ks_istore (n := 78) S dX5_pause_76 rfl (L' := fun yy => [some (kr 38), some (ki p), some (ki o), some (ki v), some (ki 0), some (ki i), some (ki yy)]) (Nat.le_of_ble_eq_true rfl) (fun _ => rfl) (fun v6_76 hv76 => ?_)
      subst v6_76
      refine ks_iload (n := 80) S dX5_pause_78 rfl rfl ?_
      refine ks_if_lt (n := 83) (tgt := 92) S dX5_pause_80 rfl rfl (fun h80 => ?_) (fun h80 => ?_)
      · skip
        refine ks_aload_n (n := 93) S dX5_pause_92 rfl rfl ?_
        refine ks_getr (n := 96) S dX5_pause_93 rfl fl_X5_13 rfl rfl ?_
        refine kf_s1v (n := 99) S dX5_pause_96 rfl ml_X5_83 ym_X5_hour (ev_X5_hour rfl (by rw [g40]; exact hok) (by rw [g40, hps.2.2.1]; omega)) (by decide) (Nat.le_of_ble_eq_true rfl) ?_
        rw [g40]
        refine ks_iinc (n := 102) S dX5_pause_99 rfl rfl (by omega) (L' := fun yy => [some (kr 38), some (ki p), some (ki o), some (ki v), some (ki 0), some (ki yy), some (ki _)]) (fun _ => rfl) (fun v5_99 hv99 => ?_)
        subst v5_99
        refine ks_goto (n := 48) S dX5_pause_102 rfl ?_
        refine ks_weak (L' := [some (kr 38), some (ki p), some (ki o), some (ki v), some (ki 0), some (ki _), none]) S ((And.intro rfl (And.intro rfl (And.intro rfl (And.intro rfl (And.intro rfl (And.intro rfl True.intro))))))) ?_
        refine ih _ (by omega) ⟨by omega, F4.tr (FrQ.m (z2 (by omega))), by rw [sr_r], ?_⟩
        rw [hd, m_fi_s (by omega), if_neg]
        unfold m_pp
        rw [decide_eq_true_eq]
        omega
      · skip
        refine ks_iload (n := 85) S dX5_pause_83 rfl rfl ?_
        refine ks_iload_n (n := 86) S dX5_pause_85 rfl rfl ?_
        refine ks_icmp_gt (n := 89) (tgt := 92) S dX5_pause_86 rfl rfl (fun h86 => ?_) (fun h86 => ?_)
        · skip
          refine ks_aload_n (n := 93) S dX5_pause_92 rfl rfl ?_
          refine ks_getr (n := 96) S dX5_pause_93 rfl fl_X5_13 rfl rfl ?_
          refine kf_s1v (n := 99) S dX5_pause_96 rfl ml_X5_83 ym_X5_hour (ev_X5_hour rfl (by rw [g40]; exact hok) (by rw [g40, hps.2.2.1]; omega)) (by decide) (Nat.le_of_ble_eq_true rfl) ?_
          rw [g40]
          refine ks_iinc (n := 102) S dX5_pause_99 rfl rfl (by omega) (L' := fun yy => [some (kr 38), some (ki p), some (ki o), some (ki v), some (ki 0), some (ki yy), some (ki _)]) (fun _ => rfl) (fun v5_99 hv99 => ?_)
          subst v5_99
          refine ks_goto (n := 48) S dX5_pause_102 rfl ?_
          refine ks_weak (L' := [some (kr 38), some (ki p), some (ki o), some (ki v), some (ki 0), some (ki _), none]) S ((And.intro rfl (And.intro rfl (And.intro rfl (And.intro rfl (And.intro rfl (And.intro rfl True.intro))))))) ?_
          refine ih _ (by omega) ⟨by omega, F4.tr (FrQ.m (z2 (by omega))), by rw [sr_r], ?_⟩
          rw [hd, m_fi_s (by omega), if_neg]
          unfold m_pp
          rw [decide_eq_true_eq]
          omega
        · skip
          refine ks_iload (n := 91) S dX5_pause_89 rfl rfl ?_
          refine ks_iret S dX5_pause_91 ?_
          refine qr_t hR F4 ?_
          unfold A_pause
          rw [← e39, if_neg (by omega), if_neg (by omega), if_neg (by omega), hf, hd, m_fi_s (by omega), if_pos]
          unfold m_pp
          rw [decide_eq_true_eq]
          omega
  refine ks_aload_n (n := 1) S dX5_pause_0 rfl rfl ?_
  refine ks_iload_n (n := 2) S dX5_pause_1 rfl rfl ?_
  refine ks_iload_n (n := 3) S dX5_pause_2 rfl rfl ?_
  refine kf_v2z (n := 6) S dX5_pause_3 rfl ml_X5_168 ym_X5_areWrong (ev_X5_areWrong n6) (by decide) rfl (Nat.le_of_ble_eq_true rfl) ?_
  refine ks_if_eq (n := 9) (tgt := 13) S dX5_pause_6 rfl rfl (fun h6 => ?_) (fun h6 => ?_)
  · skip
    simp only [bi_eq, bi_ne, Classical.not_not] at h6
    refine ks_iload_n (n := 14) S dX5_pause_13 rfl rfl ?_
    refine ks_iconst (n := 15) S dX5_pause_14 rfl (by unfold iv; decide) ?_
    refine ks_bipush (n := 17) S dX5_pause_15 rfl (by unfold iv; decide) ?_
    refine kf_s3i (n := 20) S dX5_pause_17 rfl ml_X5_144 ym_X5_wrongBy (ev_X5_wrongBy) (by decide) (Nat.le_of_ble_eq_true rfl) ?_
    rcases m_out v 0 99 with ⟨hc17, hw17⟩ | ⟨hc17, hd17, hw17⟩ | ⟨hc17, hd17, hw17⟩
    · skip
      rw [hw17]
      refine ks_istore (n := 22) S dX5_pause_20 rfl (L' := fun yy => [some (kr 38), some (ki p), some (ki o), some (ki v), some (ki yy), none, none]) (Nat.le_of_ble_eq_true rfl) (fun _ => rfl) (fun v4_20 hv20 => ?_)
      obtain rfl : v4_20 = -4 := by omega
      refine ks_iload (n := 24) S dX5_pause_22 rfl rfl ?_
      refine ks_if_eq (n := 27) (tgt := 34) S dX5_pause_24 rfl rfl (fun h24 => ?_) (fun h24 => ?_)
      · omega
      refine ks_aload_n (n := 28) S dX5_pause_27 rfl rfl ?_
      refine ks_iload (n := 30) S dX5_pause_28 rfl rfl ?_
      refine kf_v1i (n := 33) S dX5_pause_30 rfl ml_X5_38 ym_X5_no (ev_X5_no (by omega)) (by decide) rfl (Nat.le_of_ble_eq_true rfl) ?_
      refine ks_iret S dX5_pause_33 ?_
      first | exact qr_r hR (by unfold A_pause; rw [← e39, if_pos (by omega)]) | exact qr_r hR (by unfold A_pause; rw [← e39, if_neg (by omega), if_pos (by omega)]) | exact qr_r hR (by unfold A_pause; rw [← e39, if_neg (by omega), if_neg (by omega), if_pos (by omega)])
    · skip
      rw [hw17]
      refine ks_istore (n := 22) S dX5_pause_20 rfl (L' := fun yy => [some (kr 38), some (ki p), some (ki o), some (ki v), some (ki yy), none, none]) (Nat.le_of_ble_eq_true rfl) (fun _ => rfl) (fun v4_20 hv20 => ?_)
      obtain rfl : v4_20 = -6 := by omega
      refine ks_iload (n := 24) S dX5_pause_22 rfl rfl ?_
      refine ks_if_eq (n := 27) (tgt := 34) S dX5_pause_24 rfl rfl (fun h24 => ?_) (fun h24 => ?_)
      · omega
      refine ks_aload_n (n := 28) S dX5_pause_27 rfl rfl ?_
      refine ks_iload (n := 30) S dX5_pause_28 rfl rfl ?_
      refine kf_v1i (n := 33) S dX5_pause_30 rfl ml_X5_38 ym_X5_no (ev_X5_no (by omega)) (by decide) rfl (Nat.le_of_ble_eq_true rfl) ?_
      refine ks_iret S dX5_pause_33 ?_
      first | exact qr_r hR (by unfold A_pause; rw [← e39, if_pos (by omega)]) | exact qr_r hR (by unfold A_pause; rw [← e39, if_neg (by omega), if_pos (by omega)]) | exact qr_r hR (by unfold A_pause; rw [← e39, if_neg (by omega), if_neg (by omega), if_pos (by omega)])
    · skip
      rw [hw17]
      refine ks_istore (n := 22) S dX5_pause_20 rfl (L' := fun yy => [some (kr 38), some (ki p), some (ki o), some (ki v), some (ki yy), none, none]) (Nat.le_of_ble_eq_true rfl) (fun _ => rfl) (fun v4_20 hv20 => ?_)
      obtain rfl : v4_20 = 0 := by omega
      refine ks_iload (n := 24) S dX5_pause_22 rfl rfl ?_
      refine ks_if_eq (n := 27) (tgt := 34) S dX5_pause_24 rfl rfl (fun h24 => ?_) (fun h24 => ?_)
      rotate_left
      · omega
      refine ks_aload_n (n := 35) S dX5_pause_34 rfl rfl ?_
      refine ks_getr (n := 38) S dX5_pause_35 rfl fl_X5_9 rfl rfl ?_
      refine ks_aload_n (n := 39) S dX5_pause_38 rfl rfl ?_
      refine ks_getr (n := 42) S dX5_pause_39 rfl fl_X5_13 rfl rfl ?_
      refine kf_s2v (n := 45) S dX5_pause_42 rfl ml_X5_137 ym_X5_copies (ev_X5_copies rfl rfl (by decide) z39 z40) (by decide) (Nat.le_of_ble_eq_true rfl) ?_
      refine ks_iconst (n := 46) S dX5_pause_45 rfl (by unfold iv; decide) ?_
      refine ks_istore (n := 48) S dX5_pause_46 rfl (L' := fun yy => [some (kr 38), some (ki p), some (ki o), some (ki v), some (ki (0)), some (ki yy), none]) (Nat.le_of_ble_eq_true rfl) (fun _ => rfl) (fun v5_46 hv46 => ?_)
      obtain rfl : v5_46 = 0 := by omega
      exact lp (by omega) (by omega) (by omega) 0 _ (by omega) ⟨by omega, FrQ.m z39, by rw [sr_r]; rfl, rfl⟩
  · skip
    simp only [bi_eq, bi_ne, Classical.not_not] at h6
    refine ks_iconst (n := 10) S dX5_pause_9 rfl (by unfold iv; decide) ?_
    refine ks_goto (n := 20) S dX5_pause_10 rfl ?_
    refine ks_istore (n := 22) S dX5_pause_20 rfl (L' := fun yy => [some (kr 38), some (ki p), some (ki o), some (ki v), some (ki yy), none, none]) (Nat.le_of_ble_eq_true rfl) (fun _ => rfl) (fun v4_20 hv20 => ?_)
    obtain rfl : v4_20 = -1 := by omega
    refine ks_iload (n := 24) S dX5_pause_22 rfl rfl ?_
    refine ks_if_eq (n := 27) (tgt := 34) S dX5_pause_24 rfl rfl (fun h24 => ?_) (fun h24 => ?_)
    · omega
    refine ks_aload_n (n := 28) S dX5_pause_27 rfl rfl ?_
    refine ks_iload (n := 30) S dX5_pause_28 rfl rfl ?_
    refine kf_v1i (n := 33) S dX5_pause_30 rfl ml_X5_38 ym_X5_no (ev_X5_no (by omega)) (by decide) rfl (Nat.le_of_ble_eq_true rfl) ?_
    refine ks_iret S dX5_pause_33 ?_
    first | exact qr_r hR (by unfold A_pause; rw [← e39, if_pos (by omega)]) | exact qr_r hR (by unfold A_pause; rw [← e39, if_neg (by omega), if_pos (by omega)]) | exact qr_r hR (by unfold A_pause; rw [← e39, if_neg (by omega), if_neg (by omega), if_pos (by omega)])
theorem ok_pause {p o v : Int} (h : OkM M) : OkM (A_pause M p o v).2 := by unfold A_pause; (repeat' split) <;> first | exact h | exact h.ref
end PUB15

