section PUB12
variable {l : Launch} {σ M : KS}
theorem m_gives_0 {k f : Int} : m_gives k f 0 = 0 := by
  unfold m_gives m_sg; (repeat' split) <;> omega
theorem m_rn_c {a a' g g' T : RW} (h2 : ∀ d, 0 ≤ d → aD a' d 2 = aD a d 2 ∧ aD a' d 3 = aD a d 3) : ∀ n : Nat, (∀ d, 0 ≤ d → d < (n : Int) → g' d = g d) → m_rn a' g' T n = m_rn a g T n := by
  intro n
  induction n with
  | zero => intro _; rfl
  | succ n ih =>
    intro h
    show m_rx (m_rn a' g' T n) _ _ (g' n) = m_rx (m_rn a g T n) _ _ (g n)
    rw [ih (fun d d0 d1 => h d d0 (by omega)), h n (by omega) (by omega), (h2 n (by omega)).1, (h2 n (by omega)).2]
theorem m_tl_c {a a' g g' : RW} {room : Int} (n0 : 0 ≤ a 0) (h0 : a' 0 = a 0) (h2 : ∀ d, 0 ≤ d → aD a' d 2 = aD a d 2 ∧ aD a' d 3 = aD a d 3) (h : ∀ d, 0 ≤ d → d < a 0 → g' d = g d) : m_tl a' g' room = m_tl a g room := by
  have key : ∀ n : Nat, m_rr a' g' (m_T0 room) n = m_rr a g (m_T0 room) n := by
    intro n
    induction n with
    | zero => rfl
    | succ n ih =>
      show m_rn a' g' (m_rr a' g' (m_T0 room) n) _ = m_rn a g (m_rr a g (m_T0 room) n) _
      rw [ih, h0]
      exact m_rn_c h2 _ (fun d d0 d1 => h d d0 (by omega))
  exact key 7
/-- the giving after the door d is aired -/
def m_ar (a : RW) (d e : Int) : Int := if e = d then 0 else m_gv a e
theorem m_ar_b {a : RW} {d e : Int} (ok : OkR a) (he : 0 ≤ e ∧ e < a 0) : 0 ≤ m_ar a d e ∧ m_ar a d e ≤ 108 := by
  have := m_gv_b ok he
  unfold m_ar; split <;> omega
theorem m_ar_h {a : RW} {d e : Int} (hd : 0 ≤ d) (he : 0 ≤ e) : m_gv (m_heats a d 0 9) e = m_ar a d e := by
  unfold m_gv m_ar m_heats aD
  by_cases h : e = d
  · rw [if_pos h, h]
    rw [ru_n (j := 3 + 6 * d + 4) (i := 3 + 6 * d + 5) (by omega), ru_s, show m_held 0 = 0 from rfl]
    exact m_gives_0
  · rw [if_neg h]
    simp only [ru_n (show 3 + 6 * e + 0 ≠ 3 + 6 * d + 5 by omega), ru_n (show 3 + 6 * e + 0 ≠ 3 + 6 * d + 4 by omega), ru_n (show 3 + 6 * e + 1 ≠ 3 + 6 * d + 5 by omega), ru_n (show 3 + 6 * e + 1 ≠ 3 + 6 * d + 4 by omega), ru_n (show 3 + 6 * e + 4 ≠ 3 + 6 * d + 5 by omega), ru_n (show 3 + 6 * e + 4 ≠ 3 + 6 * d + 4 by omega)]
    rfl
theorem m_ar_t {a : RW} {d room : Int} (n0 : 0 ≤ a 0) (hd : 0 ≤ d) : m_tl (m_heats a d 0 9) (m_gv (m_heats a d 0 9)) room = m_tl a (m_ar a d) room := by
  refine m_tl_c n0 ?_ (fun e he => ?_) (fun e e0 _ => m_ar_h hd e0)
  · unfold m_heats; rw [ru_n (by omega), ru_n (by omega)]
  · unfold m_heats aD
    rw [ru_n (by omega), ru_n (by omega), ru_n (by omega), ru_n (by omega)]
    exact ⟨rfl, rfl⟩
def m_av (a : RW) (o f d : Int) : Int := m_gi (m_tl a (m_ar a d) o f)
def m_as (a : RW) (o f : Int) : Nat → Int × Int
  | 0 => (-9, m_gi (m_tn a o f))
  | n + 1 => if m_av a o f n < (m_as a o f n).2 then ((n : Int), m_av a o f n) else m_as a o f n
theorem m_as_s {a : RW} {o f i : Int} (h : 0 ≤ i) : m_as a o f (i + 1).toNat = if m_av a o f i < (m_as a o f i.toNat).2 then (i, m_av a o f i) else m_as a o f i.toNat := by
  obtain ⟨n, rfl⟩ := Int.eq_ofNat_of_zero_le h
  rfl
theorem m_gi_b {t : Int} (h : m_rg t) : m_gi t = -9 ∨ (0 ≤ m_gi t ∧ m_gi t ≤ 648) := by
  unfold m_gi; unfold m_rg at h; split <;> omega
theorem m_av_b {a : RW} {o f d : Int} (ok : OkR a) (ho : 0 ≤ o ∧ o < 7) (hf : 0 ≤ f ∧ f < 7) : m_av a o f d = -9 ∨ (0 ≤ m_av a o f d ∧ m_av a o f d ≤ 648) := m_gi_b ((m_PI_tl ok (fun e e0 e1 => (m_ar_b ok ⟨e0, e1⟩).2) ho).rg hf)
theorem m_as_b {a : RW} {o f : Int} (ok : OkR a) (ho : 0 ≤ o ∧ o < 7) (hf : 0 ≤ f ∧ f < 7) : ∀ n : Nat, (m_as a o f n).2 = -9 ∨ (0 ≤ (m_as a o f n).2 ∧ (m_as a o f n).2 ≤ 648) := by
  intro n
  induction n with
  | zero => exact m_gi_b ((m_tn_PI ok ho).rg hf)
  | succ n ih =>
    have e : m_as a o f (n + 1) = if m_av a o f n < (m_as a o f n).2 then ((n : Int), m_av a o f n) else m_as a o f n := rfl
    rw [e]
    split
    · exact m_av_b ok ho hf
    · exact ih
theorem m_as_x {a : RW} {o f : Int} (ok : OkR a) (ho : 0 ≤ o ∧ o < 7) (hf : 0 ≤ f ∧ f < 7) {n : Nat} (h : (m_as a o f n).2 < 0) : ∀ k : Nat, m_as a o f (n + k) = m_as a o f n := by
  have hb := m_as_b ok ho hf n
  intro k
  induction k with
  | zero => rfl
  | succ k ih =>
    have e : m_as a o f (n + (k + 1)) = if m_av a o f (n + k : Nat) < (m_as a o f (n + k)).2 then (((n + k : Nat) : Int), m_av a o f (n + k : Nat)) else m_as a o f (n + k) := rfl
    have := m_av_b (d := (n + k : Nat)) ok ho hf
    rw [e, ih]
    exact if_neg (by omega)
def A_air (M : KS) (p o : Int) : Int × KS := if ¬ ((0 ≤ p ∧ p ≤ M 39 1 - 1) ∧ (0 ≤ o ∧ o ≤ 6)) then (-1, rfM M (-1)) else ((m_as (M 39) o (aP (M 39) p 1) (M 39 0).toNat).1, M)
theorem pc_air {p o : Int} (hM : OkM M) (hC : RC σ M) : Ev l yX4_air cX4_air 7 (some .int) 5 116 [kr 0, ki p, ki o] σ (QC (A_air M p o) σ) := by
  have R := hC.1
  have ok := hM.1
  have n9 := ok.1
  have n6 := ok.2.1
  refine ev_intro ym_X4_air.1 (Nat.le_of_ble_eq_true rfl) (fun hv hσ K S => ?_)
  have hv := hv
  show K 0 [some (kr 0), some (ki p), some (ki o), none, none, none, none] [] σ
  refine kq_use (fun (hp : 0 ≤ p ∧ p < M 39 1) (ho : 0 ≤ o ∧ o < 7) => kq_for (α := KS) (M 39 0) (fun i τ => 0 ≤ i ∧ FrT σ τ) (fun i τ => K 67 [some (kr 0), some (ki p), some (ki o), some (ki (aP (M 39) p 1)), some (ki (m_as (M 39) o (aP (M 39) p 1) i.toNat).2), some (ki (m_as (M 39) o (aP (M 39) p 1) i.toNat).1), some (ki i)] [] τ) ?_) (fun lp => ?_)
  · intro i τ hi inv ih
    obtain ⟨i0, F⟩ := inv
    have op := ok.2.2.2.2 p hp.1 hp.2
    unfold OkP at op
    have hrp : 0 ≤ aP (M 39) p 1 ∧ aP (M 39) p 1 < 7 := by omega
    generalize hf : aP (M 39) p 1 = f at *
    have hsb := m_as_b (o := o) (f := f) ok ho hrp i.toNat
    have hfin : i = M 39 0 → m_as (M 39) o f i.toNat = m_as (M 39) o f (M 39 0).toNat := fun e => by rw [e]
    rw [m_as_s i0] at ih
    generalize m_as (M 39) o f i.toNat = s at *
    have hab : ∀ e, 0 ≤ e → e < M 39 0 → m_ar (M 39) i e ≤ 108 := fun e e0 e1 => (m_ar_b ok ⟨e0, e1⟩).2
    have hrg := (m_PI_tl (g := m_ar (M 39) i) ok hab ho).rg hrp
    have hfb := m_f_b hrg
    have R1 := (hC.fr F).1
    have s0 : τ 1 0 = M 39 0 := R1.1
    refine ks_iload (n := 69) S dX4_air_67 rfl rfl ?_
    refine ks_aload_n (n := 70) S dX4_air_69 rfl rfl ?_
    refine ks_getr (n := 73) S dX4_air_70 rfl fl_X4_10 rfl rfl ?_
    refine ks_getI (n := 76) (fi := 0) S dX4_air_73 rfl fl_X4_161 kq_H1.o rfl rfl ?_
    refine ks_icmp_ge (n := 79) (tgt := 146) S dX4_air_76 rfl rfl (fun h76 => ?_) (fun h76 => ?_)
    · skip
      refine ks_iload (n := 148) S dX4_air_146 rfl rfl ?_
      refine ks_iret S dX4_air_148 ?_
      exact qc_t hC F (by unfold A_air; rw [if_neg (by omega), hf, ← hfin (by omega)])
    · skip
      refine ks_aload_n (n := 80) S dX4_air_79 rfl rfl ?_
      refine ks_getr (n := 83) S dX4_air_80 rfl fl_X4_36 rfl rfl ?_
      refine ks_aload_n (n := 84) S dX4_air_83 rfl rfl ?_
      refine ks_getr (n := 87) S dX4_air_84 rfl fl_X4_10 rfl rfl ?_
      refine ks_iconst (n := 88) S dX4_air_87 rfl (by unfold iv; decide) ?_
      refine ks_v2v (n := 91) S dX4_air_88 rfl ml_X4_184 ym_X3_tollAfter (ev_X3_tollAfter kq_H1 R1 ok (by omega)) (by decide) rfl (Nat.le_of_ble_eq_true rfl) (fun τ88 q88 => ?_)
      obtain ⟨q1, F1, hz⟩ := q88
      refine ks_aload_n (n := 92) S dX4_air_91 rfl rfl ?_
      refine ks_getr (n := 95) S dX4_air_92 rfl fl_X4_36 rfl rfl ?_
      refine ks_iload (n := 97) S dX4_air_95 rfl rfl ?_
      refine ks_iconst (n := 98) S dX4_air_97 rfl (by unfold iv; decide) ?_
      refine kf_v2v (n := 101) S dX4_air_98 rfl ml_X4_187 ym_X3_setToll (ev_X3_setToll (by omega)) (by decide) rfl (Nat.le_of_ble_eq_true rfl) ?_
      have F2 : FrT σ (kq_up τ88 34 i 0) := (F.tr (fun e he => F1 e (by omega))).up (by omega)
      have hgd : ∀ d, 0 ≤ d → d < M 39 0 → m_ar (M 39) i d = kq_up τ88 34 i 0 34 d ∧ -1 ≤ m_ar (M 39) i d ∧ m_ar (M 39) i d ≤ 108 := fun d d0 d1 => by
        have hb := m_ar_b (d := i) ok ⟨d0, d1⟩
        refine ⟨?_, by omega, hb.2⟩
        rw [kq_up_of]; unfold m_ar
        split
        · rfl
        · rw [hz d d0 d1, m_ga_0 ok ⟨d0, d1⟩]
      refine ks_aload_n (n := 102) S dX4_air_101 rfl rfl ?_
      refine ks_getr (n := 105) S dX4_air_102 rfl fl_X4_36 rfl rfl ?_
      refine ks_aload_n (n := 106) S dX4_air_105 rfl rfl ?_
      refine ks_getr (n := 109) S dX4_air_106 rfl fl_X4_10 rfl rfl ?_
      refine ks_iload_n (n := 110) S dX4_air_109 rfl rfl ?_
      refine ks_v2v (n := 113) S dX4_air_110 rfl ml_X4_180 ym_X3_leadTo (ev_X3_leadTo kq_H1 (hC.fr F2).1 ok ho hgd) (by decide) rfl (Nat.le_of_ble_eq_true rfl) (fun τ110 q110 => ?_)
      obtain ⟨q2, F3, hP⟩ := q110
      have F4 : FrT σ τ110 := F2.tr (fun e he => F3 e (by omega))
      have hpo : τ110 35 f = m_f (m_tl (M 39) (m_ar (M 39) i) o f) := hP f hrp.1 hrp.2
      have hv : (if 1000000 ≤ τ110 35 f then -9 else τ110 35 f / 16) = m_av (M 39) o f i := by rw [hpo, m_f_gi hrg]; rfl
      refine ks_aload_n (n := 114) S dX4_air_113 rfl rfl ?_
      refine ks_getr (n := 117) S dX4_air_114 rfl fl_X4_36 rfl rfl ?_
      refine ks_iload_n (n := 118) S dX4_air_117 rfl rfl ?_
      refine kf_v1i (n := 121) S dX4_air_118 rfl ml_X4_167 ym_X3_givenFrom (ev_X3_givenFrom hrp (by omega)) (by decide) rfl (Nat.le_of_ble_eq_true rfl) ?_
      rw [hv]
      refine ks_iload (n := 123) S dX4_air_121 rfl rfl ?_
      refine ks_icmp_ge (n := 126) (tgt := 140) S dX4_air_123 rfl rfl (fun h123 => ?_) (fun h123 => ?_)
      · skip
        refine ks_iinc (n := 143) S dX4_air_140 rfl rfl (by omega) (L' := fun yy => [some (kr 0), some (ki p), some (ki o), some (ki f), some (ki s.2), some (ki s.1), some (ki yy)]) (fun _ => rfl) (fun v6_140 hv140 => ?_)
        subst v6_140
        refine ks_goto (n := 67) S dX4_air_143 rfl ?_
        first | (rw [if_neg (by omega)] at ih; exact ih _ (by omega) ⟨by omega, F4⟩) | (rw [if_pos (by omega)] at ih; exact ih _ (by omega) ⟨by omega, F4⟩)
      · skip
        refine ks_aload_n (n := 127) S dX4_air_126 rfl rfl ?_
        refine ks_getr (n := 130) S dX4_air_127 rfl fl_X4_36 rfl rfl ?_
        refine ks_iload_n (n := 131) S dX4_air_130 rfl rfl ?_
        refine kf_v1i (n := 134) S dX4_air_131 rfl ml_X4_167 ym_X3_givenFrom (ev_X3_givenFrom hrp (by omega)) (by decide) rfl (Nat.le_of_ble_eq_true rfl) ?_
        rw [hv]
        refine ks_istore (n := 136) S dX4_air_134 rfl (L' := fun yy => [some (kr 0), some (ki p), some (ki o), some (ki f), some (ki yy), some (ki s.1), some (ki i)]) (Nat.le_of_ble_eq_true rfl) (fun _ => rfl) (fun v4_134 hv134 => ?_)
        subst v4_134
        refine ks_iload (n := 138) S dX4_air_136 rfl rfl ?_
        refine ks_istore (n := 140) S dX4_air_138 rfl (L' := fun yy => [some (kr 0), some (ki p), some (ki o), some (ki f), some (ki _), some (ki yy), some (ki i)]) (Nat.le_of_ble_eq_true rfl) (fun _ => rfl) (fun v5_138 hv138 => ?_)
        subst v5_138
        refine ks_iinc (n := 143) S dX4_air_140 rfl rfl (by omega) (L' := fun yy => [some (kr 0), some (ki p), some (ki o), some (ki f), some (ki _), some (ki _), some (ki yy)]) (fun _ => rfl) (fun v6_140 hv140 => ?_)
        subst v6_140
        refine ks_goto (n := 67) S dX4_air_143 rfl ?_
        first | (rw [if_neg (by omega)] at ih; exact ih _ (by omega) ⟨by omega, F4⟩) | (rw [if_pos (by omega)] at ih; exact ih _ (by omega) ⟨by omega, F4⟩)
  refine ks_aload_n (n := 1) S dX4_air_0 rfl rfl ?_
  refine ks_getr (n := 4) S dX4_air_1 rfl fl_X4_10 rfl rfl ?_
  refine ks_iload_n (n := 5) S dX4_air_4 rfl rfl ?_
  refine kf_v1z (n := 8) S dX4_air_5 rfl ml_X4_99 ym_X0_hasPerson (ev_X0_hasPerson kq_H1 R) (by decide) kq_H1.o (Nat.le_of_ble_eq_true rfl) ?_
  refine ks_if_eq (n := 11) (tgt := 18) S dX4_air_8 rfl rfl (fun h8 => ?_) (fun h8 => ?_)
  · skip
    simp only [bi_eq, bi_ne, Classical.not_not] at h8
    refine ks_aload_n (n := 19) S dX4_air_18 rfl rfl ?_
    refine ks_iconst (n := 20) S dX4_air_19 rfl (by unfold iv; decide) ?_
    refine kf_v1i (n := 23) S dX4_air_20 rfl ml_X4_51 ym_X4_refuse (ev_X4_refuse (by omega)) (by decide) rfl (Nat.le_of_ble_eq_true rfl) ?_
    refine ks_iret S dX4_air_23 ?_
    exact qc_r hC (by omega) (by unfold A_air; rw [if_pos (by omega)])
  · skip
    simp only [bi_eq, bi_ne, Classical.not_not] at h8
    refine ks_iload_n (n := 12) S dX4_air_11 rfl rfl ?_
    refine kf_s1z (n := 15) S dX4_air_12 rfl ml_X4_130 ym_X4_isRoom (ev_X4_isRoom) (by decide) (Nat.le_of_ble_eq_true rfl) ?_
    refine ks_if_ne (n := 18) (tgt := 24) S dX4_air_15 rfl rfl (fun h15 => ?_) (fun h15 => ?_)
    · skip
      simp only [bi_eq, bi_ne, Classical.not_not] at h15
      have op := ok.2.2.2.2 p (by omega) (by omega)
      unfold OkP at op
      have f0 := (R.2.2.2.2 p (by omega) (by omega)).2.1
      have hT := m_tn_PI (room := o) ok (by omega)
      have hrg := hT.rg (r := aP (M 39) p 1) (by omega)
      have hfb := m_f_b hrg
      have hrp : 0 ≤ aP (M 39) p 1 ∧ aP (M 39) p 1 < 7 := by omega
      refine ks_aload_n (n := 25) S dX4_air_24 rfl rfl ?_
      refine ks_getr (n := 28) S dX4_air_25 rfl fl_X4_10 rfl rfl ?_
      refine ks_getr (n := 31) S dX4_air_28 rfl fl_X4_105 kq_H1.o rfl ?_
      refine ks_iload_n (n := 32) S dX4_air_31 rfl rfl ?_
      refine ks_iaload (n := 33) S dX4_air_32 rfl kq_H1.a8 (by omega) ?_
      rw [f0]
      refine ks_istore_n (n := 34) S dX4_air_33 rfl rfl (L' := fun yy => [some (kr 0), some (ki p), some (ki o), some (ki yy), none, none, none]) (Nat.le_of_ble_eq_true rfl) (fun _ => rfl) (fun v3_33 hv33 => ?_)
      subst v3_33
      refine ks_aload_n (n := 35) S dX4_air_34 rfl rfl ?_
      refine ks_iload_n (n := 36) S dX4_air_35 rfl rfl ?_
      refine ks_iconst (n := 37) S dX4_air_36 rfl (by unfold iv; decide) ?_
      refine ks_v2v (n := 40) S dX4_air_37 rfl ml_X4_164 ym_X4_findWaysTo (ev_X4_findWaysTo (g := m_gv (M 39)) hM hC (by omega) (by omega) (fun d d0 d1 => (m_ga_0 ok ⟨d0, d1⟩).symm)) (by decide) rfl (Nat.le_of_ble_eq_true rfl) (fun τ37 q37 => ?_)
      obtain ⟨q1, F, hP, hgd⟩ := q37
      have hpo : τ37 35 (aP (M 39) p 1) = m_f (m_tn (M 39) o (aP (M 39) p 1)) := hP _ (by omega) (by omega)
      refine ks_aload_n (n := 41) S dX4_air_40 rfl rfl ?_
      refine ks_getr (n := 44) S dX4_air_41 rfl fl_X4_36 rfl rfl ?_
      refine ks_iload_n (n := 45) S dX4_air_44 rfl rfl ?_
      refine kf_v1i (n := 48) S dX4_air_45 rfl ml_X4_167 ym_X3_givenFrom (ev_X3_givenFrom (by omega) (by omega)) (by decide) rfl (Nat.le_of_ble_eq_true rfl) ?_
      rw [hpo, m_f_gi hrg]
      refine ks_istore (n := 50) S dX4_air_48 rfl (L' := fun yy => [some (kr 0), some (ki p), some (ki o), some (ki _), some (ki yy), none, none]) (Nat.le_of_ble_eq_true rfl) (fun _ => rfl) (fun v4_48 hv48 => ?_)
      subst v4_48
      refine ks_iload (n := 52) S dX4_air_50 rfl rfl ?_
      refine ks_bipush (n := 54) S dX4_air_52 rfl (by unfold iv; decide) ?_
      refine ks_icmp_ne (n := 57) (tgt := 60) S dX4_air_54 rfl rfl (fun h54 => ?_) (fun h54 => ?_)
      · skip
        refine ks_bipush (n := 62) S dX4_air_60 rfl (by unfold iv; decide) ?_
        refine ks_istore (n := 64) S dX4_air_62 rfl (L' := fun yy => [some (kr 0), some (ki p), some (ki o), some (ki _), some (ki _), some (ki yy), none]) (Nat.le_of_ble_eq_true rfl) (fun _ => rfl) (fun v5_62 hv62 => ?_)
        obtain rfl : v5_62 = -9 := by omega
        refine ks_iconst (n := 65) S dX4_air_64 rfl (by unfold iv; decide) ?_
        refine ks_istore (n := 67) S dX4_air_65 rfl (L' := fun yy => [some (kr 0), some (ki p), some (ki o), some (ki _), some (ki _), some (ki (-9)), some (ki yy)]) (Nat.le_of_ble_eq_true rfl) (fun _ => rfl) (fun v6_65 hv65 => ?_)
        obtain rfl : v6_65 = 0 := by omega
        exact lp (by omega) (by omega) 0 _ n9.1 ⟨by omega, F⟩
      · skip
        refine ks_bipush (n := 59) S dX4_air_57 rfl (by unfold iv; decide) ?_
        refine ks_iret S dX4_air_59 ?_
        exact qc_t hC F (by unfold A_air; rw [if_neg (by omega), ← Nat.zero_add (M 39 0).toNat, m_as_x ok (by omega) hrp (n := 0) (by show m_gi _ < 0; omega)]; rfl)
    · skip
      simp only [bi_eq, bi_ne, Classical.not_not] at h15
      refine ks_aload_n (n := 19) S dX4_air_18 rfl rfl ?_
      refine ks_iconst (n := 20) S dX4_air_19 rfl (by unfold iv; decide) ?_
      refine kf_v1i (n := 23) S dX4_air_20 rfl ml_X4_51 ym_X4_refuse (ev_X4_refuse (by omega)) (by decide) rfl (Nat.le_of_ble_eq_true rfl) ?_
      refine ks_iret S dX4_air_23 ?_
      exact qc_r hC (by omega) (by unfold A_air; rw [if_pos (by omega)])
theorem pr_air {p o : Int} (hM : OkM M) (hR : RR σ M) : Ev l yX5_air cX5_air 8 (some .int) 5 116 [kr 38, ki p, ki o] σ (QR (A_air M p o) σ) := by
  have e39 : σ 39 = M 39 := hR.1
  have ok : OkR (σ 39) := by rw [e39]; exact hM.1
  have n9 := ok.1
  have n6 := ok.2.1
  have z40 := hR.2.2.2.2.2.2.2.2.1
  have z39 : Zr (σ 39) := by rw [e39]; exact hM.2.2.1
  refine ev_intro ym_X5_air.1 (Nat.le_of_ble_eq_true rfl) (fun hv hσ K S => ?_)
  have hv := hv
  show K 0 [some (kr 38), some (ki p), some (ki o), none, none, none, none, none] [] σ
  refine kq_use (fun (hp : 0 ≤ p ∧ p < σ 39 1) (ho : 0 ≤ o ∧ o < 7) => kq_for (α := KS) (σ 39 0) (fun i τ => 0 ≤ i ∧ FrQ σ τ) (fun i τ => K 47 [some (kr 38), some (ki p), some (ki o), some (ki (aP (σ 39) p 1)), some (ki (m_as (σ 39) o (aP (σ 39) p 1) i.toNat).2), some (ki (m_as (σ 39) o (aP (σ 39) p 1) i.toNat).1), some (ki i), none] [] τ) ?_) (fun lp => ?_)
  · intro i τ hi inv ih
    obtain ⟨i0, F⟩ := inv
    have op := ok.2.2.2.2 p hp.1 hp.2
    unfold OkP at op
    have hrp : 0 ≤ aP (σ 39) p 1 ∧ aP (σ 39) p 1 < 7 := by omega
    generalize hf : aP (σ 39) p 1 = f at *
    have hsb := m_as_b (o := o) (f := f) ok ho hrp i.toNat
    have hfin : i = σ 39 0 ∨ (m_as (σ 39) o f i.toNat).2 < 0 → m_as (σ 39) o f i.toNat = m_as (σ 39) o f (σ 39 0).toNat := fun e => by
      rcases e with e | e
      · rw [e]
      · rw [show (σ 39 0).toNat = i.toNat + ((σ 39 0).toNat - i.toNat) by omega]
        exact (m_as_x ok ho hrp e _).symm
    rw [m_as_s i0] at ih
    generalize m_as (σ 39) o f i.toNat = s at *
    have f39 : τ 39 = σ 39 := F.1 39 (by omega)
    have s0 : τ 39 0 = σ 39 0 := by rw [f39]
    refine ks_iload (n := 49) S dX5_air_47 rfl rfl ?_
    refine ks_aload_n (n := 50) S dX5_air_49 rfl rfl ?_
    refine ks_getr (n := 53) S dX5_air_50 rfl fl_X5_9 rfl rfl ?_
    refine ks_iconst (n := 54) S dX5_air_53 rfl (by unfold iv; decide) ?_
    refine ks_iaload (n := 55) S dX5_air_54 rfl rfl (by omega) ?_
    refine ks_icmp_ge (n := 58) (tgt := 124) S dX5_air_55 rfl rfl (fun h55 => ?_) (fun h55 => ?_)
    · skip
      refine ks_iload (n := 126) S dX5_air_124 rfl rfl ?_
      refine ks_iret S dX5_air_126 ?_
      exact qr_t hR F (by unfold A_air; rw [← e39, if_neg (by omega), hf, ← hfin (by omega)])
    · skip
      refine ks_iload (n := 60) S dX5_air_58 rfl rfl ?_
      refine ks_if_lt (n := 63) (tgt := 124) S dX5_air_60 rfl rfl (fun h60 => ?_) (fun h60 => ?_)
      · skip
        refine ks_iload (n := 126) S dX5_air_124 rfl rfl ?_
        refine ks_iret S dX5_air_126 ?_
        exact qr_t hR F (by unfold A_air; rw [← e39, if_neg (by omega), hf, ← hfin (by omega)])
      · skip
        refine ks_aload_n (n := 64) S dX5_air_63 rfl rfl ?_
        refine ks_getr (n := 67) S dX5_air_64 rfl fl_X5_9 rfl rfl ?_
        refine ks_aload_n (n := 68) S dX5_air_67 rfl rfl ?_
        refine ks_getr (n := 71) S dX5_air_68 rfl fl_X5_13 rfl rfl ?_
        refine kf_s2v (n := 74) S dX5_air_71 rfl ml_X5_137 ym_X5_copies (ev_X5_copies rfl rfl (by decide) (by rw [f39]; exact z39) F.2.2.2.2) (by decide) (Nat.le_of_ble_eq_true rfl) ?_
        refine ks_aload_n (n := 75) S dX5_air_74 rfl rfl ?_
        refine ks_getr (n := 78) S dX5_air_75 rfl fl_X5_13 rfl rfl ?_
        refine ks_iload (n := 80) S dX5_air_78 rfl rfl ?_
        refine ks_iconst (n := 81) S dX5_air_80 rfl (by unfold iv; decide) ?_
        refine ks_bipush (n := 83) S dX5_air_81 rfl (by unfold iv; decide) ?_
        refine kf_s4v (n := 86) S dX5_air_83 rfl ml_X5_69 ym_X5_heats (ev_X5_heats rfl (by omega)) (by decide) (Nat.le_of_ble_eq_true rfl) ?_
        rw [sr_r, sr_sr, f39]
        have hok : OkR (sr τ 40 (m_heats (σ 39) i 0 9) 40) := by rw [sr_r]; exact m_heats_ok ok (by omega) (by omega)
        have FF : FrQ σ (sr τ 40 (m_heats (σ 39) i 0 9)) := F.tr (FrQ.m (m_heats_z z39 (by omega)))
        refine ks_aload_n (n := 87) S dX5_air_86 rfl rfl ?_
        refine ks_aload_n (n := 88) S dX5_air_87 rfl rfl ?_
        refine ks_getr (n := 91) S dX5_air_88 rfl fl_X5_13 rfl rfl ?_
        refine ks_iload_n (n := 92) S dX5_air_91 rfl rfl ?_
        refine ks_iload_n (n := 93) S dX5_air_92 rfl rfl ?_
        refine ks_bipush (n := 95) S dX5_air_93 rfl (by unfold iv; decide) ?_
        refine ks_v4i (n := 98) S dX5_air_95 rfl ml_X5_184 ym_X5_givenBy (ev_X5_givenBy rfl (by decide) hok hrp ho) (by decide) rfl (Nat.le_of_ble_eq_true rfl) (fun r95 τ95 q95 => ?_)
        obtain ⟨q1, F3⟩ := q95
        have q1 := kq_si q1
        rw [m_tl_9 hok, sr_r, m_ar_t n9.1 i0] at q1
        replace q1 : r95 = m_av (σ 39) o f i := q1
        subst q1
        have F4 := FF.tr (FrQ.t47 F3 FF.2.2.2.2)
        refine ks_istore (n := 100) S dX5_air_98 rfl (L' := fun yy => [some (kr 38), some (ki p), some (ki o), some (ki f), some (ki s.2), some (ki s.1), some (ki i), some (ki yy)]) (Nat.le_of_ble_eq_true rfl) (fun _ => rfl) (fun v7_98 hv98 => ?_)
        subst v7_98
        refine ks_iload (n := 102) S dX5_air_100 rfl rfl ?_
        refine ks_iload (n := 104) S dX5_air_102 rfl rfl ?_
        refine ks_icmp_lt (n := 107) (tgt := 110) S dX5_air_104 rfl rfl (fun h104 => ?_) (fun h104 => ?_)
        · skip
          refine ks_iload (n := 112) S dX5_air_110 rfl rfl ?_
          refine ks_istore (n := 114) S dX5_air_112 rfl (L' := fun yy => [some (kr 38), some (ki p), some (ki o), some (ki f), some (ki s.2), some (ki yy), some (ki i), some (ki _)]) (Nat.le_of_ble_eq_true rfl) (fun _ => rfl) (fun v5_112 hv112 => ?_)
          subst v5_112
          refine ks_iload (n := 116) S dX5_air_114 rfl rfl ?_
          refine ks_istore (n := 118) S dX5_air_116 rfl (L' := fun yy => [some (kr 38), some (ki p), some (ki o), some (ki f), some (ki yy), some (ki _), some (ki i), some (ki _)]) (Nat.le_of_ble_eq_true rfl) (fun _ => rfl) (fun v4_116 hv116 => ?_)
          subst v4_116
          refine ks_iinc (n := 121) S dX5_air_118 rfl rfl (by omega) (L' := fun yy => [some (kr 38), some (ki p), some (ki o), some (ki f), some (ki _), some (ki _), some (ki yy), some (ki _)]) (fun _ => rfl) (fun v6_118 hv118 => ?_)
          subst v6_118
          refine ks_goto (n := 47) S dX5_air_121 rfl ?_
          refine ks_weak (L' := [some (kr 38), some (ki p), some (ki o), some (ki f), some (ki _), some (ki _), some (ki _), none]) S ((And.intro rfl (And.intro rfl (And.intro rfl (And.intro rfl (And.intro rfl (And.intro rfl (And.intro rfl True.intro)))))))) ?_
          first | (rw [if_neg (by omega)] at ih; exact ih _ (by omega) ⟨by omega, F4⟩) | (rw [if_pos (by omega)] at ih; exact ih _ (by omega) ⟨by omega, F4⟩)
        · skip
          refine ks_goto (n := 118) S dX5_air_107 rfl ?_
          refine ks_iinc (n := 121) S dX5_air_118 rfl rfl (by omega) (L' := fun yy => [some (kr 38), some (ki p), some (ki o), some (ki f), some (ki s.2), some (ki s.1), some (ki yy), some (ki _)]) (fun _ => rfl) (fun v6_118 hv118 => ?_)
          subst v6_118
          refine ks_goto (n := 47) S dX5_air_121 rfl ?_
          refine ks_weak (L' := [some (kr 38), some (ki p), some (ki o), some (ki f), some (ki s.2), some (ki s.1), some (ki _), none]) S ((And.intro rfl (And.intro rfl (And.intro rfl (And.intro rfl (And.intro rfl (And.intro rfl (And.intro rfl True.intro)))))))) ?_
          first | (rw [if_neg (by omega)] at ih; exact ih _ (by omega) ⟨by omega, F4⟩) | (rw [if_pos (by omega)] at ih; exact ih _ (by omega) ⟨by omega, F4⟩)
  refine ks_aload_n (n := 1) S dX5_air_0 rfl rfl ?_
  refine ks_iload_n (n := 2) S dX5_air_1 rfl rfl ?_
  refine ks_iload_n (n := 3) S dX5_air_2 rfl rfl ?_
  refine kf_v2z (n := 6) S dX5_air_3 rfl ml_X5_168 ym_X5_areWrong (ev_X5_areWrong n6) (by decide) rfl (Nat.le_of_ble_eq_true rfl) ?_
  refine ks_if_eq (n := 9) (tgt := 15) S dX5_air_6 rfl rfl (fun h6 => ?_) (fun h6 => ?_)
  · skip
    simp only [bi_eq, bi_ne, Classical.not_not] at h6
    have op := ok.2.2.2.2 p (by omega) (by omega)
    unfold OkP at op
    have f1 : σ 39 (57 + 3 * p + 1) = aP (σ 39) p 1 := rfl
    refine ks_aload_n (n := 16) S dX5_air_15 rfl rfl ?_
    refine ks_getr (n := 19) S dX5_air_16 rfl fl_X5_9 rfl rfl ?_
    refine ks_iload_n (n := 20) S dX5_air_19 rfl rfl ?_
    refine ks_iconst (n := 21) S dX5_air_20 rfl (by unfold iv; decide) ?_
    refine kf_s2i (n := 24) S dX5_air_21 rfl ml_X5_55 ym_X5_ofP (ev_X5_ofP (by omega) (by omega)) (by decide) (Nat.le_of_ble_eq_true rfl) ?_
    refine ks_iaload (n := 25) S dX5_air_24 rfl rfl (by omega) ?_
    rw [f1]
    refine ks_istore_n (n := 26) S dX5_air_25 rfl rfl (L' := fun yy => [some (kr 38), some (ki p), some (ki o), some (ki yy), none, none, none, none]) (Nat.le_of_ble_eq_true rfl) (fun _ => rfl) (fun v3_25 hv25 => ?_)
    subst v3_25
    refine ks_aload_n (n := 27) S dX5_air_26 rfl rfl ?_
    refine ks_aload_n (n := 28) S dX5_air_27 rfl rfl ?_
    refine ks_getr (n := 31) S dX5_air_28 rfl fl_X5_9 rfl rfl ?_
    refine ks_iload_n (n := 32) S dX5_air_31 rfl rfl ?_
    refine ks_iload_n (n := 33) S dX5_air_32 rfl rfl ?_
    refine ks_bipush (n := 35) S dX5_air_33 rfl (by unfold iv; decide) ?_
    refine ks_v4i (n := 38) S dX5_air_35 rfl ml_X5_184 ym_X5_givenBy (ev_X5_givenBy rfl (by decide) ok (by omega) (by omega)) (by decide) rfl (Nat.le_of_ble_eq_true rfl) (fun r35 τ35 q35 => ?_)
    obtain ⟨q1, F⟩ := q35
    have q1 := kq_si q1
    rw [m_tl_9 ok] at q1
    subst q1
    refine ks_istore (n := 40) S dX5_air_38 rfl (L' := fun yy => [some (kr 38), some (ki p), some (ki o), some (ki _), some (ki yy), none, none, none]) (Nat.le_of_ble_eq_true rfl) (fun _ => rfl) (fun v4_38 hv38 => ?_)
    subst v4_38
    refine ks_bipush (n := 42) S dX5_air_40 rfl (by unfold iv; decide) ?_
    refine ks_istore (n := 44) S dX5_air_42 rfl (L' := fun yy => [some (kr 38), some (ki p), some (ki o), some (ki _), some (ki _), some (ki yy), none, none]) (Nat.le_of_ble_eq_true rfl) (fun _ => rfl) (fun v5_42 hv42 => ?_)
    obtain rfl : v5_42 = -9 := by omega
    refine ks_iconst (n := 45) S dX5_air_44 rfl (by unfold iv; decide) ?_
    refine ks_istore (n := 47) S dX5_air_45 rfl (L' := fun yy => [some (kr 38), some (ki p), some (ki o), some (ki _), some (ki _), some (ki (-9)), some (ki yy), none]) (Nat.le_of_ble_eq_true rfl) (fun _ => rfl) (fun v6_45 hv45 => ?_)
    obtain rfl : v6_45 = 0 := by omega
    exact lp (by omega) (by omega) 0 _ n9.1 ⟨by omega, FrQ.t47 F z40⟩
  · skip
    simp only [bi_eq, bi_ne, Classical.not_not] at h6
    refine ks_aload_n (n := 10) S dX5_air_9 rfl rfl ?_
    refine ks_iconst (n := 11) S dX5_air_10 rfl (by unfold iv; decide) ?_
    refine kf_v1i (n := 14) S dX5_air_11 rfl ml_X5_38 ym_X5_no (ev_X5_no (by omega)) (by decide) rfl (Nat.le_of_ble_eq_true rfl) ?_
    refine ks_iret S dX5_air_14 ?_
    exact qr_r hR (by unfold A_air; rw [← e39, if_pos (by omega)])
theorem ok_air {p o : Int} (h : OkM M) : OkM (A_air M p o).2 := by unfold A_air; (repeat' split) <;> first | exact h | exact h.ref
end PUB12

