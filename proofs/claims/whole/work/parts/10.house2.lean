section HOUSE2
variable {l : Launch} {σ : KS} {c : Nat} {a : RW}
theorem kq_Hr {c : Nat} (h : kq_H c) : 1 ≤ c ∧ c ≤ 21 := by rcases h with rfl | rfl | rfl <;> omega
theorem ev_X0_open {p d : Int} (hH : kq_H c) (hR : RepH σ c a) (ok : OkR a) (hp : 0 ≤ p ∧ p < a 1) (hd : 0 ≤ d ∧ d < a 0) (hof : m_of a d (aP a p 1)) : Ev l yX0_open cX0_open 4 none 2 43 [kr c, ki p, ki d] σ (fun r τ => r = none ∧ RepH τ c (m_open a p d) ∧ FrH c σ τ) := by
  have h9 := ok.1
  have h6 := ok.2.1
  obtain ⟨o1, o2, o3, o4, o5, o6, o7, o8⟩ := ok.2.2.2.1 d hd.1 hd.2
  obtain ⟨q1, q2, q3⟩ := ok.2.2.2.2 p hp.1 hp.2
  obtain ⟨e1, e2, e3, e4, e5, e6⟩ := hR.2.2.2.1 d hd.1 hd.2
  obtain ⟨f1, f2, f3⟩ := hR.2.2.2.2 p hp.1 hp.2
  have hg := m_gives_b (k := aD a d 0) o2 o6
  have hg2 : m_gives (aD a d 0) (aD a d 1) (aD a d 4) = m_gv a d := rfl
  refine ev_intro ym_X0_open.1 (Nat.le_of_ble_eq_true rfl) (fun hv hσ K S => ?_)
  have hv := hv
  show K 0 [some (kr c), some (ki p), some (ki d), none] [] σ
  refine ks_aload_n (n := 1) S dX0_open_0 rfl rfl ?_
  refine ks_getr (n := 4) S dX0_open_1 rfl fl_X0_15 hH.o rfl ?_
  refine ks_iload_n (n := 5) S dX0_open_4 rfl rfl ?_
  refine ks_iaload (n := 6) S dX0_open_5 rfl hH.a1 (by omega) ?_
  refine ks_aload_n (n := 7) S dX0_open_6 rfl rfl ?_
  refine ks_getr (n := 10) S dX0_open_7 rfl fl_X0_19 hH.o rfl ?_
  refine ks_iload_n (n := 11) S dX0_open_10 rfl rfl ?_
  refine ks_iaload (n := 12) S dX0_open_11 rfl hH.a2 (by omega) ?_
  refine ks_aload_n (n := 13) S dX0_open_12 rfl rfl ?_
  refine ks_getr (n := 16) S dX0_open_13 rfl fl_X0_28 hH.o rfl ?_
  refine ks_iload_n (n := 17) S dX0_open_16 rfl rfl ?_
  refine ks_iaload (n := 18) S dX0_open_17 rfl hH.a5 (by omega) ?_
  refine kf_s3i (n := 21) S dX0_open_18 rfl ml_X0_57 ym_X1_gives (ev_X1_gives (by omega) (by omega)) (by decide) (Nat.le_of_ble_eq_true rfl) ?_
  rw [e1, e2, e5, hg2]
  refine ks_istore_n (n := 22) S dX0_open_21 rfl rfl (L' := fun y => [some (kr c), some (ki p), some (ki d), some (ki y)]) (Nat.le_of_ble_eq_true rfl) (fun _ => rfl) (fun g hv21 => ?_)
  refine ks_aload_n (n := 23) S dX0_open_22 rfl rfl ?_
  refine ks_getr (n := 26) S dX0_open_23 rfl fl_X0_43 hH.o rfl ?_
  refine ks_iload_n (n := 27) S dX0_open_26 rfl rfl ?_
  refine ks_bipush (n := 29) S dX0_open_27 rfl (by unfold iv; decide) ?_
  refine ks_aload_n (n := 30) S dX0_open_29 rfl rfl ?_
  refine ks_getr (n := 33) S dX0_open_30 rfl fl_X0_43 hH.o rfl ?_
  refine ks_iload_n (n := 34) S dX0_open_33 rfl rfl ?_
  refine ks_iaload (n := 35) S dX0_open_34 rfl hH.a9 (by omega) ?_
  refine ks_iload_n (n := 36) S dX0_open_35 rfl rfl ?_
  refine ks_iadd (n := 37) S dX0_open_36 rfl (by omega) ?_
  refine ks_mmin (n := 40) S dX0_open_37 rfl ml_X0_67 (by decide) (Nat.le_of_ble_eq_true rfl) ?_
  refine ks_iastore (n := 41) S dX0_open_40 rfl hH.a9 (by omega) ?_
  rw [f3, show (if aP a p 2 + g < 99 then aP a p 2 + g else 99) = m_held (aP a p 2 + m_gv a d) by rw [hv21]; unfold m_held; (repeat' split) <;> omega]
  obtain ⟨ρ, hρ⟩ : ∃ z, z = kq_up σ (c + 9) p (m_held (aP a p 2 + m_gv a d)) := ⟨_, rfl⟩
  have R1 : RepH ρ c (m_o1 a p d) := by rw [hρ]; exact hR.uP2 (by omega) hp.1
  have F1 : FrH c σ ρ := by rw [hρ]; exact FrH.rf.up (by omega) (by omega)
  rw [← hρ]
  have K1 := m_o1_ok (d := d) ok hp.1
  have z1 := m_o1_01 (a := a) (d := d) hp.1
  obtain ⟨E1, E2, E3, E4, E5, E6⟩ := R1.2.2.2.1 d hd.1 (by omega)
  obtain ⟨t1, t2, t3, t4, t5, t6, t7, t8⟩ := K1.2.2.2.1 d hd.1 (by omega)
  obtain ⟨u1, u2, u3⟩ := K1.2.2.2.2 p hp.1 (by omega)
  have hsy : 0 ≤ m_says (m_o1 a p d) p ∧ m_says (m_o1 a p d) p ≤ 99 := by unfold m_says; omega
  have hkp := m_keeps_b (k := aD (m_o1 a p d) d 0) t2 hsy.1
  refine ks_aload_n (n := 42) S dX0_open_41 rfl rfl ?_
  refine ks_iload_n (n := 43) S dX0_open_42 rfl rfl ?_
  refine ks_aload_n (n := 44) S dX0_open_43 rfl rfl ?_
  refine ks_getr (n := 47) S dX0_open_44 rfl fl_X0_15 hH.o rfl ?_
  refine ks_iload_n (n := 48) S dX0_open_47 rfl rfl ?_
  refine ks_iaload (n := 49) S dX0_open_48 rfl hH.a1 (by omega) ?_
  refine ks_aload_n (n := 50) S dX0_open_49 rfl rfl ?_
  refine ks_getr (n := 53) S dX0_open_50 rfl fl_X0_19 hH.o rfl ?_
  refine ks_iload_n (n := 54) S dX0_open_53 rfl rfl ?_
  refine ks_iaload (n := 55) S dX0_open_54 rfl hH.a2 (by omega) ?_
  refine ks_aload_n (n := 56) S dX0_open_55 rfl rfl ?_
  refine ks_iload_n (n := 57) S dX0_open_56 rfl rfl ?_
  refine kf_v1i (n := 60) S dX0_open_57 rfl ml_X0_73 ym_X0_said (ev_X0_said hH R1 K1 (by omega)) (by decide) hH.o (Nat.le_of_ble_eq_true rfl) ?_
  refine kf_s3i (n := 63) S dX0_open_60 rfl ml_X0_77 ym_X1_keeps (ev_X1_keeps (by omega) (by omega)) (by decide) (Nat.le_of_ble_eq_true rfl) ?_
  refine ks_iload_n (n := 64) S dX0_open_63 rfl rfl ?_
  refine kf_v3v (n := 67) S dX0_open_64 rfl ml_X0_80 ym_X0_fill (ev_X0_fill hH (by omega)) (by decide) hH.o (Nat.le_of_ble_eq_true rfl) ?_
  obtain ⟨ρ2, hρ2⟩ : ∃ z, z = kq_up (kq_up ρ (c + 5) d (m_mn 99 (m_keeps (ρ (c + 1) d) (ρ (c + 2) d) (m_says (m_o1 a p d) p)))) (c + 6) d (if 0 < m_mn 99 (m_keeps (ρ (c + 1) d) (ρ (c + 2) d) (m_says (m_o1 a p d) p)) then p else 9) := ⟨_, rfl⟩
  rw [← hρ2]
  have R2 : RepH ρ2 c (m_o2 a p d) := by
    unfold m_o2 m_heats m_kp
    rw [show m_held (m_keeps (aD (m_o1 a p d) d 0) (aD (m_o1 a p d) d 1) (m_says (m_o1 a p d) p)) = m_mn 99 (m_keeps (ρ (c + 1) d) (ρ (c + 2) d) (m_says (m_o1 a p d) p)) by rw [E1, E2]; unfold m_held m_mn; (repeat' split) <;> omega, show (if 0 < m_keeps (aD (m_o1 a p d) d 0) (aD (m_o1 a p d) d 1) (m_says (m_o1 a p d) p) then p else 9) = (if 0 < m_mn 99 (m_keeps (ρ (c + 1) d) (ρ (c + 2) d) (m_says (m_o1 a p d) p)) then p else 9) by rw [E1, E2]; unfold m_mn; (repeat' split) <;> omega, hρ2]
    exact (R1.uD4 (by omega)).uD5 (by omega)
  have F2 : FrH c σ ρ2 := by rw [hρ2]; exact (F1.up (by omega) (by omega)).up (by omega) (by omega)
  have K2 := m_o2_ok ok hp hd
  have z2 := m_o2_01 (a := a) (p := p) (d := d) hp.1 hd.1
  obtain ⟨w1, w2, w3⟩ := R2.2.2.2.2 p hp.1 (by omega)
  have g2 : aD (m_o2 a p d) d 2 = aD a d 2 := by rw [← m_o1_D (a := a) (p := p) (d := d) hp.1 (by omega)]; unfold aD m_o2 m_heats; rw [ru_n (by omega), ru_n (by omega)]
  have g3 : aD (m_o2 a p d) d 3 = aD a d 3 := by rw [← m_o1_D (a := a) (p := p) (d := d) hp.1 (by omega)]; unfold aD m_o2 m_heats; rw [ru_n (by omega), ru_n (by omega)]
  have g1 : aP (m_o2 a p d) p 1 = aP a p 1 := by unfold aP m_o2 m_heats m_o1; rw [ru_n (by omega), ru_n (by omega), ru_n (by omega)]
  refine ks_aload_n (n := 68) S dX0_open_67 rfl rfl ?_
  refine ks_getr (n := 71) S dX0_open_68 rfl fl_X0_40 hH.o rfl ?_
  refine ks_iload_n (n := 72) S dX0_open_71 rfl rfl ?_
  refine ks_aload_n (n := 73) S dX0_open_72 rfl rfl ?_
  refine ks_iload_n (n := 74) S dX0_open_73 rfl rfl ?_
  refine ks_aload_n (n := 75) S dX0_open_74 rfl rfl ?_
  refine ks_getr (n := 78) S dX0_open_75 rfl fl_X0_40 hH.o rfl ?_
  refine ks_iload_n (n := 79) S dX0_open_78 rfl rfl ?_
  refine ks_iaload (n := 80) S dX0_open_79 rfl hH.a8 (by omega) ?_
  refine kf_v2i (n := 83) S dX0_open_80 rfl ml_X0_84 ym_X0_beyond (ev_X0_beyond hH R2 K2 (by omega)) (by decide) hH.o (Nat.le_of_ble_eq_true rfl) ?_
  refine ks_iastore (n := 84) S dX0_open_83 rfl hH.a8 (by omega) ?_
  obtain ⟨ρ3, hρ3⟩ : ∃ z, z = kq_up ρ2 (c + 8) p (if aD (m_o2 a p d) d 2 = ρ2 (c + 8) p then aD (m_o2 a p d) d 3 else aD (m_o2 a p d) d 2) := ⟨_, rfl⟩
  rw [← hρ3]
  have R3 : RepH ρ3 c (m_o3 a p d) := by
    unfold m_o3
    rw [show m_by (m_o2 a p d) d (aP (m_o2 a p d) p 1) = (if aD (m_o2 a p d) d 2 = ρ2 (c + 8) p then aD (m_o2 a p d) d 3 else aD (m_o2 a p d) d 2) by unfold m_by; unfold m_of at hof; rw [w2, g1, g2, g3]; split <;> omega, hρ3]
    exact R2.uP1 (by omega) hp.1
  have F3 : FrH c σ ρ3 := by rw [hρ3]; exact F2.up (by omega) (by omega)
  have z3 : m_o3 a p d 1 = a 1 ∧ m_o3 a p d 0 = a 0 := by unfold m_o3; rw [ru_n (by omega), ru_n (by omega)]; omega
  obtain ⟨y1, y2, y3⟩ := R3.2.2.2.2 p hp.1 (by omega)
  have g5 : aP (m_o3 a p d) p 2 = aP (m_o1 a p d) p 2 := by unfold aP m_o3 m_o2 m_heats; rw [ru_n (by omega), ru_n (by omega), ru_n (by omega)]
  refine ks_aload_n (n := 85) S dX0_open_84 rfl rfl ?_
  refine ks_getr (n := 88) S dX0_open_85 rfl fl_X0_43 hH.o rfl ?_
  refine ks_iload_n (n := 89) S dX0_open_88 rfl rfl ?_
  refine ks_iconst (n := 90) S dX0_open_89 rfl (by unfold iv; decide) ?_
  refine ks_aload_n (n := 91) S dX0_open_90 rfl rfl ?_
  refine ks_getr (n := 94) S dX0_open_91 rfl fl_X0_43 hH.o rfl ?_
  refine ks_iload_n (n := 95) S dX0_open_94 rfl rfl ?_
  refine ks_iaload (n := 96) S dX0_open_95 rfl hH.a9 (by omega) ?_
  refine ks_iconst (n := 97) S dX0_open_96 rfl (by unfold iv; decide) ?_
  refine ks_isub (n := 98) S dX0_open_97 rfl (by omega) ?_
  refine ks_mmax (n := 101) S dX0_open_98 rfl ml_X0_87 (by decide) (Nat.le_of_ble_eq_true rfl) ?_
  refine ks_iastore (n := 102) S dX0_open_101 rfl hH.a9 (by omega) ?_
  refine ks_vret S dX0_open_102 ?_
  refine ⟨rfl, ?_, F3.up (by omega) (by omega)⟩
  unfold m_open
  rw [show m_held (aP (m_o3 a p d) p 2 - 5) = (if 0 < ρ3 (c + 9) p - 5 then ρ3 (c + 9) p - 5 else 0) by rw [y3, g5]; unfold m_held; (repeat' split) <;> omega]
  exact R3.uP2 (by omega) hp.1
theorem RepH.cong {b : RW} (hR : RepH σ c a) (h : ∀ i, 0 ≤ i → i < 75 → a i = b i) (ok : OkR a) : RepH σ c b := by
  obtain ⟨h1, h2, h3, h4, h5⟩ := hR
  have o1 := ok.1
  have o2 := ok.2.1
  refine ⟨by rw [← h 0 (by omega) (by omega)]; exact h1, by rw [← h 1 (by omega) (by omega)]; exact h2, by rw [← h 2 (by omega) (by omega)]; exact h3, fun q q0 q1 => ?_, fun q q0 q1 => ?_⟩
  · rw [← h 0 (by omega) (by omega)] at q1
    have := h4 q q0 q1
    unfold aD at this ⊢
    simp only [← h (3 + 6 * q + 0) (by omega) (by omega), ← h (3 + 6 * q + 1) (by omega) (by omega), ← h (3 + 6 * q + 2) (by omega) (by omega), ← h (3 + 6 * q + 3) (by omega) (by omega), ← h (3 + 6 * q + 4) (by omega) (by omega), ← h (3 + 6 * q + 5) (by omega) (by omega)]
    exact this
  · rw [← h 1 (by omega) (by omega)] at q1
    have := h5 q q0 q1
    unfold aP at this ⊢
    simp only [← h (57 + 3 * q + 0) (by omega) (by omega), ← h (57 + 3 * q + 1) (by omega) (by omega), ← h (57 + 3 * q + 2) (by omega) (by omega)]
    exact this
def m_addD (a : RW) (k f o b : Int) : RW := ru (ru (ru (ru (ru (ru (ru a (3 + 6 * a 0 + 0) k) (3 + 6 * a 0 + 1) f) (3 + 6 * a 0 + 2) o) (3 + 6 * a 0 + 3) b) (3 + 6 * a 0 + 4) 0) (3 + 6 * a 0 + 5) 9) 0 (a 0 + 1)
def m_addP (a : RW) (t r : Int) : RW := ru (ru (ru (ru a (57 + 3 * a 1 + 0) t) (57 + 3 * a 1 + 1) r) (57 + 3 * a 1 + 2) 0) 1 (a 1 + 1)
theorem RepH.more {v : Int} (hR : RepH σ c a) (hv : v = a 0 + 1) (h0 : 0 ≤ a 0) (hn : σ (c + 1) (a 0) = aD a (a 0) 0 ∧ σ (c + 2) (a 0) = aD a (a 0) 1 ∧ σ (c + 3) (a 0) = aD a (a 0) 2 ∧ σ (c + 4) (a 0) = aD a (a 0) 3 ∧ σ (c + 5) (a 0) = aD a (a 0) 4 ∧ σ (c + 6) (a 0) = aD a (a 0) 5) : RepH (kq_up σ c 0 v) c (ru a 0 v) := by
  obtain ⟨h1, h2, h3, h4, h5⟩ := hR
  refine ⟨by rw [kq_up_s, ru_s], by rw [kq_up_i (by omega), ru_n (by omega)]; exact h2, by rw [kq_up_i (by omega), ru_n (by omega)]; exact h3, fun q q0 q1 => ?_, fun q q0 q1 => ?_⟩
  · rw [ru_s] at q1
    have : σ (c + 1) q = aD a q 0 ∧ σ (c + 2) q = aD a q 1 ∧ σ (c + 3) q = aD a q 2 ∧ σ (c + 4) q = aD a q 3 ∧ σ (c + 5) q = aD a q 4 ∧ σ (c + 6) q = aD a q 5 := by
      by_cases hq : q = a 0
      · rw [hq]; exact hn
      · exact h4 q q0 (by omega)
    unfold aD at this ⊢
    simp only [ru_n (show (3 + 6 * q + 0 : Int) ≠ 0 by omega), ru_n (show (3 + 6 * q + 1 : Int) ≠ 0 by omega), ru_n (show (3 + 6 * q + 2 : Int) ≠ 0 by omega), ru_n (show (3 + 6 * q + 3 : Int) ≠ 0 by omega), ru_n (show (3 + 6 * q + 4 : Int) ≠ 0 by omega), ru_n (show (3 + 6 * q + 5 : Int) ≠ 0 by omega), kq_up_c (show c + 1 ≠ c by omega), kq_up_c (show c + 2 ≠ c by omega), kq_up_c (show c + 3 ≠ c by omega), kq_up_c (show c + 4 ≠ c by omega), kq_up_c (show c + 5 ≠ c by omega), kq_up_c (show c + 6 ≠ c by omega)]
    exact this
  · rw [ru_n (by omega)] at q1
    have := h5 q q0 q1
    unfold aP at this ⊢
    simp only [ru_n (show (57 + 3 * q + 0 : Int) ≠ 0 by omega), ru_n (show (57 + 3 * q + 1 : Int) ≠ 0 by omega), ru_n (show (57 + 3 * q + 2 : Int) ≠ 0 by omega), kq_up_c (show c + 7 ≠ c by omega), kq_up_c (show c + 8 ≠ c by omega), kq_up_c (show c + 9 ≠ c by omega)]
    exact this
theorem RepH.moreP {v : Int} (hR : RepH σ c a) (hv : v = a 1 + 1) (h0 : 0 ≤ a 1) (hn : σ (c + 7) (a 1) = aP a (a 1) 0 ∧ σ (c + 8) (a 1) = aP a (a 1) 1 ∧ σ (c + 9) (a 1) = aP a (a 1) 2) : RepH (kq_up σ c 7 v) c (ru a 1 v) := by
  obtain ⟨h1, h2, h3, h4, h5⟩ := hR
  refine ⟨by rw [kq_up_i (by omega), ru_n (by omega)]; exact h1, by rw [kq_up_s, ru_s], by rw [kq_up_i (by omega), ru_n (by omega)]; exact h3, fun q q0 q1 => ?_, fun q q0 q1 => ?_⟩
  · rw [ru_n (by omega)] at q1
    have := h4 q q0 q1
    unfold aD at this ⊢
    simp only [ru_n (show (3 + 6 * q + 0 : Int) ≠ 1 by omega), ru_n (show (3 + 6 * q + 1 : Int) ≠ 1 by omega), ru_n (show (3 + 6 * q + 2 : Int) ≠ 1 by omega), ru_n (show (3 + 6 * q + 3 : Int) ≠ 1 by omega), ru_n (show (3 + 6 * q + 4 : Int) ≠ 1 by omega), ru_n (show (3 + 6 * q + 5 : Int) ≠ 1 by omega), kq_up_c (show c + 1 ≠ c by omega), kq_up_c (show c + 2 ≠ c by omega), kq_up_c (show c + 3 ≠ c by omega), kq_up_c (show c + 4 ≠ c by omega), kq_up_c (show c + 5 ≠ c by omega), kq_up_c (show c + 6 ≠ c by omega)]
    exact this
  · rw [ru_s] at q1
    have : σ (c + 7) q = aP a q 0 ∧ σ (c + 8) q = aP a q 1 ∧ σ (c + 9) q = aP a q 2 := by
      by_cases hq : q = a 1
      · rw [hq]; exact hn
      · exact h5 q q0 (by omega)
    unfold aP at this ⊢
    simp only [ru_n (show (57 + 3 * q + 0 : Int) ≠ 1 by omega), ru_n (show (57 + 3 * q + 1 : Int) ≠ 1 by omega), ru_n (show (57 + 3 * q + 2 : Int) ≠ 1 by omega), kq_up_c (show c + 7 ≠ c by omega), kq_up_c (show c + 8 ≠ c by omega), kq_up_c (show c + 9 ≠ c by omega)]
    exact this
theorem ev_X4_isRoom {r : Int} : Ev l yX4_isRoom cX4_isRoom 1 (some .boolean) 0 0 [ki r] σ (Rt (some (ki (bi (0 ≤ r ∧ r < 7)))) σ) := by
  refine ev_intro ym_X4_isRoom.1 (Nat.le_of_ble_eq_true rfl) (fun hv hσ K S => ?_)
  have hv := hv
  show K 0 [some (ki r)] [] σ
  refine ks_iload_n (n := 1) S dX4_isRoom_0 rfl rfl ?_
  refine ks_if_lt (n := 4) (tgt := 14) S dX4_isRoom_1 rfl rfl (fun h1 => ?_) (fun h1 => ?_)
  · skip
    refine ks_iconst (n := 15) S dX4_isRoom_14 rfl (by unfold iv; decide) ?_
    refine ks_zret S dX4_isRoom_15 (by first | exact Or.inl rfl | exact Or.inr rfl | exact bi_01) ?_
    first | exact rt_1 (by omega) | exact rt_0 (by omega)
  · skip
    refine ks_iload_n (n := 5) S dX4_isRoom_4 rfl rfl ?_
    refine ks_bipush (n := 7) S dX4_isRoom_5 rfl (by unfold iv; decide) ?_
    refine ks_icmp_ge (n := 10) (tgt := 14) S dX4_isRoom_7 rfl rfl (fun h7 => ?_) (fun h7 => ?_)
    · skip
      refine ks_iconst (n := 15) S dX4_isRoom_14 rfl (by unfold iv; decide) ?_
      refine ks_zret S dX4_isRoom_15 (by first | exact Or.inl rfl | exact Or.inr rfl | exact bi_01) ?_
      first | exact rt_1 (by omega) | exact rt_0 (by omega)
    · skip
      refine ks_iconst (n := 11) S dX4_isRoom_10 rfl (by unfold iv; decide) ?_
      refine ks_goto (n := 15) S dX4_isRoom_11 rfl ?_
      refine ks_zret S dX4_isRoom_15 (by first | exact Or.inl rfl | exact Or.inr rfl | exact bi_01) ?_
      first | exact rt_1 (by omega) | exact rt_0 (by omega)
theorem ev_X0_addDoor {k f o b : Int} (hH : kq_H c) (hR : RepH σ c a) (ok : OkR a) : Ev l yX0_addDoor cX0_addDoor 5 (some .boolean) 1 20 [kr c, ki k, ki f, ki o, ki b] σ (fun r τ => r = some (ki (bi (a 0 < 9 ∧ (0 ≤ o ∧ o < 7) ∧ (0 ≤ b ∧ b < 7) ∧ o ≠ b))) ∧ RepH τ c (if a 0 < 9 ∧ (0 ≤ o ∧ o < 7) ∧ (0 ≤ b ∧ b < 7) ∧ o ≠ b then m_addD a k f o b else a) ∧ FrH c σ τ) := by
  have h0 : σ c 0 = a 0 := hR.1
  have h9 := ok.1
  refine ev_intro ym_X0_addDoor.1 (Nat.le_of_ble_eq_true rfl) (fun hv hσ K S => ?_)
  have hv := hv
  show K 0 [some (kr c), some (ki k), some (ki f), some (ki o), some (ki b)] [] σ
  refine ks_aload_n (n := 1) S dX0_addDoor_0 rfl rfl ?_
  refine ks_getI (n := 4) (fi := 0) S dX0_addDoor_1 rfl fl_X0_9 hH.o rfl rfl ?_
  refine ks_bipush (n := 6) S dX0_addDoor_4 rfl (by unfold iv; decide) ?_
  refine ks_icmp_ge (n := 9) (tgt := 30) S dX0_addDoor_6 rfl rfl (fun h6 => ?_) (fun h6 => ?_)
  · skip
    refine ks_iconst (n := 31) S dX0_addDoor_30 rfl (by unfold iv; decide) ?_
    refine ks_zret S dX0_addDoor_31 (by first | exact Or.inl rfl | exact Or.inr rfl | exact bi_01) ?_
    have hn : ¬ (a 0 < 9 ∧ (0 ≤ o ∧ o < 7) ∧ (0 ≤ b ∧ b < 7) ∧ o ≠ b) := by omega
    exact ⟨by rw [bi_f hn], by rw [if_neg hn]; exact hR, FrH.rf⟩
  · skip
    refine ks_iload_n (n := 10) S dX0_addDoor_9 rfl rfl ?_
    refine kf_sN (n := 13) S dX0_addDoor_10 rfl rfl ym_X4_isRoom (ev_X4_isRoom) (by decide) (Nat.le_of_ble_eq_true rfl) ?_
    refine ks_if_eq (n := 16) (tgt := 30) S dX0_addDoor_13 rfl rfl (fun h13 => ?_) (fun h13 => ?_)
    · skip
      simp only [bi_eq, bi_ne] at *
      refine ks_iconst (n := 31) S dX0_addDoor_30 rfl (by unfold iv; decide) ?_
      refine ks_zret S dX0_addDoor_31 (by first | exact Or.inl rfl | exact Or.inr rfl | exact bi_01) ?_
      have hn : ¬ (a 0 < 9 ∧ (0 ≤ o ∧ o < 7) ∧ (0 ≤ b ∧ b < 7) ∧ o ≠ b) := by omega
      exact ⟨by rw [bi_f hn], by rw [if_neg hn]; exact hR, FrH.rf⟩
    · skip
      simp only [bi_eq, bi_ne] at *
      refine ks_iload (n := 18) S dX0_addDoor_16 rfl rfl ?_
      refine kf_sN (n := 21) S dX0_addDoor_18 rfl rfl ym_X4_isRoom (ev_X4_isRoom) (by decide) (Nat.le_of_ble_eq_true rfl) ?_
      refine ks_if_eq (n := 24) (tgt := 30) S dX0_addDoor_21 rfl rfl (fun h21 => ?_) (fun h21 => ?_)
      · skip
        simp only [bi_eq, bi_ne] at *
        refine ks_iconst (n := 31) S dX0_addDoor_30 rfl (by unfold iv; decide) ?_
        refine ks_zret S dX0_addDoor_31 (by first | exact Or.inl rfl | exact Or.inr rfl | exact bi_01) ?_
        have hn : ¬ (a 0 < 9 ∧ (0 ≤ o ∧ o < 7) ∧ (0 ≤ b ∧ b < 7) ∧ o ≠ b) := by omega
        exact ⟨by rw [bi_f hn], by rw [if_neg hn]; exact hR, FrH.rf⟩
      · skip
        simp only [bi_eq, bi_ne] at *
        refine ks_iload_n (n := 25) S dX0_addDoor_24 rfl rfl ?_
        refine ks_iload (n := 27) S dX0_addDoor_25 rfl rfl ?_
        refine ks_icmp_ne (n := 30) (tgt := 32) S dX0_addDoor_27 rfl rfl (fun h27 => ?_) (fun h27 => ?_)
        · skip
          have hy : a 0 < 9 ∧ (0 ≤ o ∧ o < 7) ∧ (0 ≤ b ∧ b < 7) ∧ o ≠ b := by omega
          have hq : 0 ≤ σ c 0 ∧ σ c 0 < 9 := by omega
          refine ks_aload_n (n := 33) S dX0_addDoor_32 rfl rfl ?_
          refine ks_getr (n := 36) S dX0_addDoor_33 rfl fl_X0_15 hH.o rfl ?_
          refine ks_aload_n (n := 37) S dX0_addDoor_36 rfl rfl ?_
          refine ks_getI (n := 40) (fi := 0) S dX0_addDoor_37 rfl fl_X0_9 hH.o rfl rfl ?_
          refine ks_iload_n (n := 41) S dX0_addDoor_40 rfl rfl ?_
          refine ks_iastore (n := 42) S dX0_addDoor_41 rfl hH.a1 (by simpa [kq_up] using hq) ?_
          refine ks_aload_n (n := 43) S dX0_addDoor_42 rfl rfl ?_
          refine ks_getr (n := 46) S dX0_addDoor_43 rfl fl_X0_19 hH.o rfl ?_
          refine ks_aload_n (n := 47) S dX0_addDoor_46 rfl rfl ?_
          refine ks_getI (n := 50) (fi := 0) S dX0_addDoor_47 rfl fl_X0_9 hH.o rfl rfl ?_
          refine ks_iload_n (n := 51) S dX0_addDoor_50 rfl rfl ?_
          refine ks_iastore (n := 52) S dX0_addDoor_51 rfl hH.a2 (by simpa [kq_up] using hq) ?_
          refine ks_aload_n (n := 53) S dX0_addDoor_52 rfl rfl ?_
          refine ks_getr (n := 56) S dX0_addDoor_53 rfl fl_X0_22 hH.o rfl ?_
          refine ks_aload_n (n := 57) S dX0_addDoor_56 rfl rfl ?_
          refine ks_getI (n := 60) (fi := 0) S dX0_addDoor_57 rfl fl_X0_9 hH.o rfl rfl ?_
          refine ks_iload_n (n := 61) S dX0_addDoor_60 rfl rfl ?_
          refine ks_iastore (n := 62) S dX0_addDoor_61 rfl hH.a3 (by simpa [kq_up] using hq) ?_
          refine ks_aload_n (n := 63) S dX0_addDoor_62 rfl rfl ?_
          refine ks_getr (n := 66) S dX0_addDoor_63 rfl fl_X0_25 hH.o rfl ?_
          refine ks_aload_n (n := 67) S dX0_addDoor_66 rfl rfl ?_
          refine ks_getI (n := 70) (fi := 0) S dX0_addDoor_67 rfl fl_X0_9 hH.o rfl rfl ?_
          refine ks_iload (n := 72) S dX0_addDoor_70 rfl rfl ?_
          refine ks_iastore (n := 73) S dX0_addDoor_72 rfl hH.a4 (by simpa [kq_up] using hq) ?_
          refine ks_aload_n (n := 74) S dX0_addDoor_73 rfl rfl ?_
          refine ks_getr (n := 77) S dX0_addDoor_74 rfl fl_X0_28 hH.o rfl ?_
          refine ks_aload_n (n := 78) S dX0_addDoor_77 rfl rfl ?_
          refine ks_getI (n := 81) (fi := 0) S dX0_addDoor_78 rfl fl_X0_9 hH.o rfl rfl ?_
          refine ks_iconst (n := 82) S dX0_addDoor_81 rfl (by unfold iv; decide) ?_
          refine ks_iastore (n := 83) S dX0_addDoor_82 rfl hH.a5 (by simpa [kq_up] using hq) ?_
          refine ks_aload_n (n := 84) S dX0_addDoor_83 rfl rfl ?_
          refine ks_getr (n := 87) S dX0_addDoor_84 rfl fl_X0_31 hH.o rfl ?_
          refine ks_aload_n (n := 88) S dX0_addDoor_87 rfl rfl ?_
          refine ks_getI (n := 91) (fi := 0) S dX0_addDoor_88 rfl fl_X0_9 hH.o rfl rfl ?_
          refine ks_bipush (n := 93) S dX0_addDoor_91 rfl (by unfold iv; decide) ?_
          refine ks_iastore (n := 94) S dX0_addDoor_93 rfl hH.a6 (by simpa [kq_up] using hq) ?_
          refine ks_aload_n (n := 95) S dX0_addDoor_94 rfl rfl ?_
          refine ks_dup (n := 96) S dX0_addDoor_95 rfl rfl ?_
          refine ks_getI (n := 99) (fi := 0) S dX0_addDoor_96 rfl fl_X0_9 hH.o rfl rfl ?_
          refine ks_iconst (n := 100) S dX0_addDoor_99 rfl (by unfold iv; decide) ?_
          refine ks_iadd (n := 101) S dX0_addDoor_100 rfl (by simp [kq_up]; omega) ?_
          refine ks_putI (n := 104) (fi := 0) S dX0_addDoor_101 rfl fw_X0_9 hH.o rfl (Or.inl rfl) rfl ?_
          refine ks_iconst (n := 105) S dX0_addDoor_104 rfl (by unfold iv; decide) ?_
          refine ks_zret S dX0_addDoor_105 (by first | exact Or.inl rfl | exact Or.inr rfl | exact bi_01) ?_
          simp only [kq_up_c (show c ≠ c + 1 by omega), kq_up_c (show c ≠ c + 2 by omega), kq_up_c (show c ≠ c + 3 by omega), kq_up_c (show c ≠ c + 4 by omega), kq_up_c (show c ≠ c + 5 by omega), kq_up_c (show c ≠ c + 6 by omega), h0]
          refine ⟨by rw [bi_t hy], ?_, ?_⟩
          · rw [if_pos hy]
            have R6 := (((((hR.uD0 (d := a 0) (v := k) (by omega)).uD1 (d := a 0) (v := f) (by omega)).uD2 (d := a 0) (v := o) (by omega)).uD3 (d := a 0) (v := b) (by omega)).uD4 (d := a 0) (v := 0) (by omega)).uD5 (d := a 0) (v := 9) (by omega)
            have e0 : ∀ j, j < 3 → ru (ru (ru (ru (ru (ru a (3 + 6 * a 0 + 0) k) (3 + 6 * a 0 + 1) f) (3 + 6 * a 0 + 2) o) (3 + 6 * a 0 + 3) b) (3 + 6 * a 0 + 4) 0) (3 + 6 * a 0 + 5) 9 j = a j := fun j hj => by
              rw [ru_n (by omega), ru_n (by omega), ru_n (by omega), ru_n (by omega), ru_n (by omega), ru_n (by omega)]
            unfold m_addD
            refine R6.more (by rw [e0 0 (by omega)]) (by rw [e0 0 (by omega)]; omega) ?_
            rw [e0 0 (by omega)]
            unfold aD
            refine ⟨?_, ?_, ?_, ?_, ?_, ?_⟩ <;> (simp [kq_up, ru] <;> ((repeat' split) <;> omega))
          · exact (((((((FrH.rf.up (by omega) (by omega)).up (by omega) (by omega)).up (by omega) (by omega)).up (by omega) (by omega)).up (by omega) (by omega)).up (by omega) (by omega)).up (by omega) (by omega))
        · skip
          refine ks_iconst (n := 31) S dX0_addDoor_30 rfl (by unfold iv; decide) ?_
          refine ks_zret S dX0_addDoor_31 (by first | exact Or.inl rfl | exact Or.inr rfl | exact bi_01) ?_
          have hn : ¬ (a 0 < 9 ∧ (0 ≤ o ∧ o < 7) ∧ (0 ≤ b ∧ b < 7) ∧ o ≠ b) := by omega
          exact ⟨by rw [bi_f hn], by rw [if_neg hn]; exact hR, FrH.rf⟩
theorem ev_X0_addPerson {t o : Int} (hH : kq_H c) (hR : RepH σ c a) (ok : OkR a) : Ev l yX0_addPerson cX0_addPerson 3 (some .boolean) 1 20 [kr c, ki t, ki o] σ (fun r τ => r = some (ki (bi (a 1 < 6 ∧ 0 ≤ o ∧ o < 7))) ∧ RepH τ c (if a 1 < 6 ∧ 0 ≤ o ∧ o < 7 then m_addP a t o else a) ∧ FrH c σ τ) := by
  have h0 : σ c 7 = a 1 := hR.2.1
  have h9 := ok.1
  have h6 := ok.2.1
  refine ev_intro ym_X0_addPerson.1 (Nat.le_of_ble_eq_true rfl) (fun hv hσ K S => ?_)
  have hv := hv
  show K 0 [some (kr c), some (ki t), some (ki o)] [] σ
  refine ks_aload_n (n := 1) S dX0_addPerson_0 rfl rfl ?_
  refine ks_getI (n := 4) (fi := 7) S dX0_addPerson_1 rfl fl_X0_34 hH.o rfl rfl ?_
  refine ks_bipush (n := 6) S dX0_addPerson_4 rfl (by unfold iv; decide) ?_
  refine ks_icmp_ge (n := 9) (tgt := 16) S dX0_addPerson_6 rfl rfl (fun h6 => ?_) (fun h6 => ?_)
  · skip
    refine ks_iconst (n := 17) S dX0_addPerson_16 rfl (by unfold iv; decide) ?_
    refine ks_zret S dX0_addPerson_17 (by first | exact Or.inl rfl | exact Or.inr rfl | exact bi_01) ?_
    have hn : ¬ (a 1 < 6 ∧ 0 ≤ o ∧ o < 7) := by omega
    exact ⟨by rw [bi_f hn], by rw [if_neg hn]; exact hR, FrH.rf⟩
  · skip
    refine ks_iload_n (n := 10) S dX0_addPerson_9 rfl rfl ?_
    refine kf_sN (n := 13) S dX0_addPerson_10 rfl rfl ym_X4_isRoom (ev_X4_isRoom) (by decide) (Nat.le_of_ble_eq_true rfl) ?_
    refine ks_if_ne (n := 16) (tgt := 18) S dX0_addPerson_13 rfl rfl (fun h13 => ?_) (fun h13 => ?_)
    · skip
      simp only [bi_eq, bi_ne] at *
      have hy : a 1 < 6 ∧ 0 ≤ o ∧ o < 7 := by omega
      have hq : 0 ≤ σ c 7 ∧ σ c 7 < 6 := by omega
      refine ks_aload_n (n := 19) S dX0_addPerson_18 rfl rfl ?_
      refine ks_getr (n := 22) S dX0_addPerson_19 rfl fl_X0_37 hH.o rfl ?_
      refine ks_aload_n (n := 23) S dX0_addPerson_22 rfl rfl ?_
      refine ks_getI (n := 26) (fi := 7) S dX0_addPerson_23 rfl fl_X0_34 hH.o rfl rfl ?_
      refine ks_iload_n (n := 27) S dX0_addPerson_26 rfl rfl ?_
      refine ks_iastore (n := 28) S dX0_addPerson_27 rfl hH.a7 (by simpa [kq_up] using hq) ?_
      refine ks_aload_n (n := 29) S dX0_addPerson_28 rfl rfl ?_
      refine ks_getr (n := 32) S dX0_addPerson_29 rfl fl_X0_40 hH.o rfl ?_
      refine ks_aload_n (n := 33) S dX0_addPerson_32 rfl rfl ?_
      refine ks_getI (n := 36) (fi := 7) S dX0_addPerson_33 rfl fl_X0_34 hH.o rfl rfl ?_
      refine ks_iload_n (n := 37) S dX0_addPerson_36 rfl rfl ?_
      refine ks_iastore (n := 38) S dX0_addPerson_37 rfl hH.a8 (by simpa [kq_up] using hq) ?_
      refine ks_aload_n (n := 39) S dX0_addPerson_38 rfl rfl ?_
      refine ks_getr (n := 42) S dX0_addPerson_39 rfl fl_X0_43 hH.o rfl ?_
      refine ks_aload_n (n := 43) S dX0_addPerson_42 rfl rfl ?_
      refine ks_getI (n := 46) (fi := 7) S dX0_addPerson_43 rfl fl_X0_34 hH.o rfl rfl ?_
      refine ks_iconst (n := 47) S dX0_addPerson_46 rfl (by unfold iv; decide) ?_
      refine ks_iastore (n := 48) S dX0_addPerson_47 rfl hH.a9 (by simpa [kq_up] using hq) ?_
      refine ks_aload_n (n := 49) S dX0_addPerson_48 rfl rfl ?_
      refine ks_dup (n := 50) S dX0_addPerson_49 rfl rfl ?_
      refine ks_getI (n := 53) (fi := 7) S dX0_addPerson_50 rfl fl_X0_34 hH.o rfl rfl ?_
      refine ks_iconst (n := 54) S dX0_addPerson_53 rfl (by unfold iv; decide) ?_
      refine ks_iadd (n := 55) S dX0_addPerson_54 rfl (by simp [kq_up]; omega) ?_
      refine ks_putI (n := 58) (fi := 7) S dX0_addPerson_55 rfl fw_X0_34 hH.o rfl (Or.inl rfl) rfl ?_
      refine ks_iconst (n := 59) S dX0_addPerson_58 rfl (by unfold iv; decide) ?_
      refine ks_zret S dX0_addPerson_59 (by first | exact Or.inl rfl | exact Or.inr rfl | exact bi_01) ?_
      simp only [kq_up_c (show c ≠ c + 7 by omega), kq_up_c (show c ≠ c + 8 by omega), kq_up_c (show c ≠ c + 9 by omega), h0]
      refine ⟨by rw [bi_t hy], ?_, ?_⟩
      · rw [if_pos hy]
        have R6 := ((hR.uP0 (p := a 1) (v := t) (by omega) (by omega)).uP1 (p := a 1) (v := o) (by rw [ru_n (by omega)]; omega) (by omega)).uP2 (p := a 1) (v := 0) (by rw [ru_n (by omega), ru_n (by omega)]; omega) (by omega)
        have e0 : ∀ j, j < 3 → ru (ru (ru a (57 + 3 * a 1 + 0) t) (57 + 3 * a 1 + 1) o) (57 + 3 * a 1 + 2) 0 j = a j := fun j hj => by
          rw [ru_n (by omega), ru_n (by omega), ru_n (by omega)]
        unfold m_addP
        refine R6.moreP (by rw [e0 1 (by omega)]) (by rw [e0 1 (by omega)]; omega) ?_
        rw [e0 1 (by omega)]
        unfold aP
        refine ⟨?_, ?_, ?_⟩ <;> (simp [kq_up, ru] <;> ((repeat' split) <;> omega))
      · exact ((((FrH.rf.up (by omega) (by omega)).up (by omega) (by omega)).up (by omega) (by omega)).up (by omega) (by omega))
    · skip
      simp only [bi_eq, bi_ne] at *
      refine ks_iconst (n := 17) S dX0_addPerson_16 rfl (by unfold iv; decide) ?_
      refine ks_zret S dX0_addPerson_17 (by first | exact Or.inl rfl | exact Or.inr rfl | exact bi_01) ?_
      have hn : ¬ (a 1 < 6 ∧ 0 ≤ o ∧ o < 7) := by omega
      exact ⟨by rw [bi_f hn], by rw [if_neg hn]; exact hR, FrH.rf⟩
end HOUSE2

