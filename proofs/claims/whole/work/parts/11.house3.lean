section HOUSE3
variable {l : Launch} {σ : KS} {c : Nat} {a b : RW}
theorem kq_Hne {c f : Nat} (h : kq_H c) (h2 : kq_H f) (hn : c ≠ f) : f + 9 < c ∨ c + 9 < f := by rcases h with rfl | rfl | rfl <;> rcases h2 with rfl | rfl | rfl <;> omega
theorem ev_X0_copyFrom {f : Nat} (hH : kq_H c) (hF : kq_H f) (hne : c ≠ f) (hR : RepH σ f a) (ok : OkR a) : Ev l yX0_copyFrom cX0_copyFrom 3 none 0 0 [kr c, kr f] σ (fun r τ => r = none ∧ RepH τ c a ∧ FrH c σ τ) := by
  have hcf := kq_Hne hH hF hne
  have h9 := ok.1
  have h6 := ok.2.1
  refine ev_intro ym_X0_copyFrom.1 (Nat.le_of_ble_eq_true rfl) (fun hv hσ K S => ?_)
  have hv := hv
  show K 0 [some (kr c), some (kr f), none] [] σ
  refine kq_use (kq_for (α := KS) (a 1) (fun i ρ => 0 ≤ i ∧ FrH c σ ρ ∧ ρ c 0 = a 0 ∧ ρ c 7 = a 1 ∧ (∀ d, 0 ≤ d → d < a 0 → ρ (c + 1) d = aD a d 0 ∧ ρ (c + 2) d = aD a d 1 ∧ ρ (c + 3) d = aD a d 2 ∧ ρ (c + 4) d = aD a d 3 ∧ ρ (c + 5) d = aD a d 4 ∧ ρ (c + 6) d = aD a d 5) ∧ ∀ p, 0 ≤ p → p < i → ρ (c + 7) p = aP a p 0 ∧ ρ (c + 8) p = aP a p 1 ∧ ρ (c + 9) p = aP a p 2) (fun i ρ => K 106 [some (kr c), some (kr f), some (ki i)] [] ρ) ?_) (fun lp2 => ?_)
  · intro i ρ hi inv ih
    obtain ⟨i0, F, n0, n7, hD, hP⟩ := inv
    have RF := hR.fr F hcf
    have f11 : ρ f 11 = a 2 := RF.2.2.1
    refine ks_iload_n (n := 107) S dX0_copyFrom_106 rfl rfl ?_
    refine ks_aload_n (n := 108) S dX0_copyFrom_107 rfl rfl ?_
    refine ks_getI (n := 111) (fi := 7) S dX0_copyFrom_108 rfl fl_X0_34 hH.o rfl rfl ?_
    refine ks_icmp_ge (n := 114) (tgt := 156) S dX0_copyFrom_111 rfl rfl (fun h111 => ?_) (fun h111 => ?_)
    · skip
      refine ks_aload_n (n := 157) S dX0_copyFrom_156 rfl rfl ?_
      refine ks_aload_n (n := 158) S dX0_copyFrom_157 rfl rfl ?_
      refine ks_getI (n := 161) (fi := 11) S dX0_copyFrom_158 rfl fl_X0_46 hF.o rfl rfl ?_
      refine ks_putI (n := 164) (fi := 11) S dX0_copyFrom_161 rfl fw_X0_46 hH.o rfl (Or.inl rfl) rfl ?_
      refine ks_vret S dX0_copyFrom_164 ?_
      have hia : i = a 1 := by omega
      subst hia
      refine ⟨rfl, ⟨by rw [kq_up_i (by omega)]; exact n0, by rw [kq_up_i (by omega)]; exact n7, by rw [kq_up_s]; exact f11, ?_, ?_⟩, F.up (by omega) (by omega)⟩
      · intro d d0 d1
        obtain ⟨g1, g2, g3, g4, g5, g6⟩ := hD d d0 d1
        refine ⟨?_, ?_, ?_, ?_, ?_, ?_⟩ <;> (rw [kq_up_c (by omega)]; assumption)
      · intro p p0 p1
        obtain ⟨g1, g2, g3⟩ := hP p p0 p1
        refine ⟨?_, ?_, ?_⟩ <;> (rw [kq_up_c (by omega)]; assumption)
    · skip
      obtain ⟨e1, e2, e3⟩ := RF.2.2.2.2 i i0 (by omega)
      refine ks_aload_n (n := 115) S dX0_copyFrom_114 rfl rfl ?_
      refine ks_getr (n := 118) S dX0_copyFrom_115 rfl fl_X0_37 hH.o rfl ?_
      refine ks_iload_n (n := 119) S dX0_copyFrom_118 rfl rfl ?_
      refine ks_aload_n (n := 120) S dX0_copyFrom_119 rfl rfl ?_
      refine ks_getr (n := 123) S dX0_copyFrom_120 rfl fl_X0_37 hF.o rfl ?_
      refine ks_iload_n (n := 124) S dX0_copyFrom_123 rfl rfl ?_
      refine ks_iaload (n := 125) S dX0_copyFrom_124 rfl hF.a7 (by omega) ?_
      refine ks_iastore (n := 126) S dX0_copyFrom_125 rfl hH.a7 (by omega) ?_
      refine ks_aload_n (n := 127) S dX0_copyFrom_126 rfl rfl ?_
      refine ks_getr (n := 130) S dX0_copyFrom_127 rfl fl_X0_40 hH.o rfl ?_
      refine ks_iload_n (n := 131) S dX0_copyFrom_130 rfl rfl ?_
      refine ks_aload_n (n := 132) S dX0_copyFrom_131 rfl rfl ?_
      refine ks_getr (n := 135) S dX0_copyFrom_132 rfl fl_X0_40 hF.o rfl ?_
      refine ks_iload_n (n := 136) S dX0_copyFrom_135 rfl rfl ?_
      refine ks_iaload (n := 137) S dX0_copyFrom_136 rfl hF.a8 (by omega) ?_
      refine ks_iastore (n := 138) S dX0_copyFrom_137 rfl hH.a8 (by omega) ?_
      refine ks_aload_n (n := 139) S dX0_copyFrom_138 rfl rfl ?_
      refine ks_getr (n := 142) S dX0_copyFrom_139 rfl fl_X0_43 hH.o rfl ?_
      refine ks_iload_n (n := 143) S dX0_copyFrom_142 rfl rfl ?_
      refine ks_aload_n (n := 144) S dX0_copyFrom_143 rfl rfl ?_
      refine ks_getr (n := 147) S dX0_copyFrom_144 rfl fl_X0_43 hF.o rfl ?_
      refine ks_iload_n (n := 148) S dX0_copyFrom_147 rfl rfl ?_
      refine ks_iaload (n := 149) S dX0_copyFrom_148 rfl hF.a9 (by omega) ?_
      refine ks_iastore (n := 150) S dX0_copyFrom_149 rfl hH.a9 (by omega) ?_
      refine ks_iinc (n := 153) S dX0_copyFrom_150 rfl rfl (by omega) (L' := fun y => [some (kr c), some (kr f), some (ki y)]) (fun _ => rfl) (fun v2_150 hv150 => ?_)
      subst hv150
      refine ks_goto (n := 106) S dX0_copyFrom_153 rfl ?_
      simp only [kq_up_c (show f + 8 ≠ c + 7 by omega), kq_up_c (show f + 9 ≠ c + 7 by omega), kq_up_c (show f + 9 ≠ c + 8 by omega)]
      refine ih _ (by omega) ⟨by omega, ((F.up (by omega) (by omega)).up (by omega) (by omega)).up (by omega) (by omega), ?_, ?_, ?_, ?_⟩
      · rw [kq_up_c (by omega), kq_up_c (by omega), kq_up_c (by omega)]; exact n0
      · rw [kq_up_c (by omega), kq_up_c (by omega), kq_up_c (by omega)]; exact n7
      · intro d d0 d1
        obtain ⟨g1, g2, g3, g4, g5, g6⟩ := hD d d0 d1
        refine ⟨?_, ?_, ?_, ?_, ?_, ?_⟩ <;> (rw [kq_up_c (by omega), kq_up_c (by omega), kq_up_c (by omega)]; assumption)
      · intro p p0 p1
        by_cases hp : p = i
        · subst hp
          refine ⟨?_, ?_, ?_⟩ <;> (simp [kq_up] <;> assumption)
        · obtain ⟨g1, g2, g3⟩ := hP p p0 (by omega)
          refine ⟨?_, ?_, ?_⟩ <;> (rw [kq_up_i hp, kq_up_i hp, kq_up_i hp]; assumption)
  refine kq_use (kq_for (α := KS) (a 0) (fun i ρ => 0 ≤ i ∧ FrH c σ ρ ∧ ρ c 0 = a 0 ∧ ∀ d, 0 ≤ d → d < i → ρ (c + 1) d = aD a d 0 ∧ ρ (c + 2) d = aD a d 1 ∧ ρ (c + 3) d = aD a d 2 ∧ ρ (c + 4) d = aD a d 3 ∧ ρ (c + 5) d = aD a d 4 ∧ ρ (c + 6) d = aD a d 5) (fun i ρ => K 10 [some (kr c), some (kr f), some (ki i)] [] ρ) ?_) (fun lp1 => ?_)
  · intro i ρ hi inv ih
    obtain ⟨i0, F, n0, hD⟩ := inv
    have RF := hR.fr F hcf
    have f7 : ρ f 7 = a 1 := RF.2.1
    refine ks_iload_n (n := 11) S dX0_copyFrom_10 rfl rfl ?_
    refine ks_aload_n (n := 12) S dX0_copyFrom_11 rfl rfl ?_
    refine ks_getI (n := 15) (fi := 0) S dX0_copyFrom_12 rfl fl_X0_9 hH.o rfl rfl ?_
    refine ks_icmp_ge (n := 18) (tgt := 96) S dX0_copyFrom_15 rfl rfl (fun h15 => ?_) (fun h15 => ?_)
    · skip
      refine ks_aload_n (n := 97) S dX0_copyFrom_96 rfl rfl ?_
      refine ks_aload_n (n := 98) S dX0_copyFrom_97 rfl rfl ?_
      refine ks_getI (n := 101) (fi := 7) S dX0_copyFrom_98 rfl fl_X0_34 hF.o rfl rfl ?_
      refine ks_putI (n := 104) (fi := 7) S dX0_copyFrom_101 rfl fw_X0_34 hH.o rfl (Or.inl rfl) rfl ?_
      refine ks_iconst (n := 105) S dX0_copyFrom_104 rfl (by unfold iv; decide) ?_
      refine ks_istore_n (n := 106) S dX0_copyFrom_105 rfl rfl (L' := fun y => [some (kr c), some (kr f), some (ki y)]) (Nat.le_of_ble_eq_true rfl) (fun _ => rfl) (fun v2_105 hv105 => ?_)
      subst hv105
      have hia : i = a 0 := by omega
      subst hia
      refine lp2 0 _ h6.1 ⟨by omega, F.up (by omega) (by omega), by rw [kq_up_i (by omega)]; exact n0, by rw [kq_up_s]; exact f7, ?_, fun p p0 p1 => by omega⟩
      intro d d0 d1
      obtain ⟨g1, g2, g3, g4, g5, g6⟩ := hD d d0 d1
      refine ⟨?_, ?_, ?_, ?_, ?_, ?_⟩ <;> (rw [kq_up_c (by omega)]; assumption)
    · skip
      obtain ⟨e1, e2, e3, e4, e5, e6⟩ := RF.2.2.2.1 i i0 (by omega)
      refine ks_aload_n (n := 19) S dX0_copyFrom_18 rfl rfl ?_
      refine ks_getr (n := 22) S dX0_copyFrom_19 rfl fl_X0_15 hH.o rfl ?_
      refine ks_iload_n (n := 23) S dX0_copyFrom_22 rfl rfl ?_
      refine ks_aload_n (n := 24) S dX0_copyFrom_23 rfl rfl ?_
      refine ks_getr (n := 27) S dX0_copyFrom_24 rfl fl_X0_15 hF.o rfl ?_
      refine ks_iload_n (n := 28) S dX0_copyFrom_27 rfl rfl ?_
      refine ks_iaload (n := 29) S dX0_copyFrom_28 rfl hF.a1 (by omega) ?_
      refine ks_iastore (n := 30) S dX0_copyFrom_29 rfl hH.a1 (by omega) ?_
      refine ks_aload_n (n := 31) S dX0_copyFrom_30 rfl rfl ?_
      refine ks_getr (n := 34) S dX0_copyFrom_31 rfl fl_X0_19 hH.o rfl ?_
      refine ks_iload_n (n := 35) S dX0_copyFrom_34 rfl rfl ?_
      refine ks_aload_n (n := 36) S dX0_copyFrom_35 rfl rfl ?_
      refine ks_getr (n := 39) S dX0_copyFrom_36 rfl fl_X0_19 hF.o rfl ?_
      refine ks_iload_n (n := 40) S dX0_copyFrom_39 rfl rfl ?_
      refine ks_iaload (n := 41) S dX0_copyFrom_40 rfl hF.a2 (by omega) ?_
      refine ks_iastore (n := 42) S dX0_copyFrom_41 rfl hH.a2 (by omega) ?_
      refine ks_aload_n (n := 43) S dX0_copyFrom_42 rfl rfl ?_
      refine ks_getr (n := 46) S dX0_copyFrom_43 rfl fl_X0_22 hH.o rfl ?_
      refine ks_iload_n (n := 47) S dX0_copyFrom_46 rfl rfl ?_
      refine ks_aload_n (n := 48) S dX0_copyFrom_47 rfl rfl ?_
      refine ks_getr (n := 51) S dX0_copyFrom_48 rfl fl_X0_22 hF.o rfl ?_
      refine ks_iload_n (n := 52) S dX0_copyFrom_51 rfl rfl ?_
      refine ks_iaload (n := 53) S dX0_copyFrom_52 rfl hF.a3 (by omega) ?_
      refine ks_iastore (n := 54) S dX0_copyFrom_53 rfl hH.a3 (by omega) ?_
      refine ks_aload_n (n := 55) S dX0_copyFrom_54 rfl rfl ?_
      refine ks_getr (n := 58) S dX0_copyFrom_55 rfl fl_X0_25 hH.o rfl ?_
      refine ks_iload_n (n := 59) S dX0_copyFrom_58 rfl rfl ?_
      refine ks_aload_n (n := 60) S dX0_copyFrom_59 rfl rfl ?_
      refine ks_getr (n := 63) S dX0_copyFrom_60 rfl fl_X0_25 hF.o rfl ?_
      refine ks_iload_n (n := 64) S dX0_copyFrom_63 rfl rfl ?_
      refine ks_iaload (n := 65) S dX0_copyFrom_64 rfl hF.a4 (by omega) ?_
      refine ks_iastore (n := 66) S dX0_copyFrom_65 rfl hH.a4 (by omega) ?_
      refine ks_aload_n (n := 67) S dX0_copyFrom_66 rfl rfl ?_
      refine ks_getr (n := 70) S dX0_copyFrom_67 rfl fl_X0_28 hH.o rfl ?_
      refine ks_iload_n (n := 71) S dX0_copyFrom_70 rfl rfl ?_
      refine ks_aload_n (n := 72) S dX0_copyFrom_71 rfl rfl ?_
      refine ks_getr (n := 75) S dX0_copyFrom_72 rfl fl_X0_28 hF.o rfl ?_
      refine ks_iload_n (n := 76) S dX0_copyFrom_75 rfl rfl ?_
      refine ks_iaload (n := 77) S dX0_copyFrom_76 rfl hF.a5 (by omega) ?_
      refine ks_iastore (n := 78) S dX0_copyFrom_77 rfl hH.a5 (by omega) ?_
      refine ks_aload_n (n := 79) S dX0_copyFrom_78 rfl rfl ?_
      refine ks_getr (n := 82) S dX0_copyFrom_79 rfl fl_X0_31 hH.o rfl ?_
      refine ks_iload_n (n := 83) S dX0_copyFrom_82 rfl rfl ?_
      refine ks_aload_n (n := 84) S dX0_copyFrom_83 rfl rfl ?_
      refine ks_getr (n := 87) S dX0_copyFrom_84 rfl fl_X0_31 hF.o rfl ?_
      refine ks_iload_n (n := 88) S dX0_copyFrom_87 rfl rfl ?_
      refine ks_iaload (n := 89) S dX0_copyFrom_88 rfl hF.a6 (by omega) ?_
      refine ks_iastore (n := 90) S dX0_copyFrom_89 rfl hH.a6 (by omega) ?_
      refine ks_iinc (n := 93) S dX0_copyFrom_90 rfl rfl (by omega) (L' := fun y => [some (kr c), some (kr f), some (ki y)]) (fun _ => rfl) (fun v2_90 hv90 => ?_)
      subst hv90
      refine ks_goto (n := 10) S dX0_copyFrom_93 rfl ?_
      simp only [kq_up_c (show f + 2 ≠ c + 1 by omega), kq_up_c (show f + 3 ≠ c + 1 by omega), kq_up_c (show f + 4 ≠ c + 1 by omega), kq_up_c (show f + 5 ≠ c + 1 by omega), kq_up_c (show f + 6 ≠ c + 1 by omega), kq_up_c (show f + 3 ≠ c + 2 by omega), kq_up_c (show f + 4 ≠ c + 2 by omega), kq_up_c (show f + 5 ≠ c + 2 by omega), kq_up_c (show f + 6 ≠ c + 2 by omega), kq_up_c (show f + 4 ≠ c + 3 by omega), kq_up_c (show f + 5 ≠ c + 3 by omega), kq_up_c (show f + 6 ≠ c + 3 by omega), kq_up_c (show f + 5 ≠ c + 4 by omega), kq_up_c (show f + 6 ≠ c + 4 by omega), kq_up_c (show f + 6 ≠ c + 5 by omega)]
      refine ih _ (by omega) ⟨by omega, (((((F.up (by omega) (by omega)).up (by omega) (by omega)).up (by omega) (by omega)).up (by omega) (by omega)).up (by omega) (by omega)).up (by omega) (by omega), ?_, ?_⟩
      · rw [kq_up_c (by omega), kq_up_c (by omega), kq_up_c (by omega), kq_up_c (by omega), kq_up_c (by omega), kq_up_c (by omega)]; exact n0
      · intro p p0 p1
        by_cases hp : p = i
        · subst hp
          refine ⟨?_, ?_, ?_, ?_, ?_, ?_⟩ <;> (simp [kq_up] <;> assumption)
        · obtain ⟨g1, g2, g3, g4, g5, g6⟩ := hD p p0 (by omega)
          refine ⟨?_, ?_, ?_, ?_, ?_, ?_⟩ <;> (rw [kq_up_i hp, kq_up_i hp, kq_up_i hp, kq_up_i hp, kq_up_i hp, kq_up_i hp]; assumption)
  refine ks_aload_n (n := 1) S dX0_copyFrom_0 rfl rfl ?_
  refine ks_aload_n (n := 2) S dX0_copyFrom_1 rfl rfl ?_
  refine ks_getI (n := 5) (fi := 0) S dX0_copyFrom_2 rfl fl_X0_9 hF.o rfl rfl ?_
  refine ks_putI (n := 8) (fi := 0) S dX0_copyFrom_5 rfl fw_X0_9 hH.o rfl (Or.inl rfl) rfl ?_
  refine ks_iconst (n := 9) S dX0_copyFrom_8 rfl (by unfold iv; decide) ?_
  refine ks_istore_n (n := 10) S dX0_copyFrom_9 rfl rfl (L' := fun y => [some (kr c), some (kr f), some (ki y)]) (Nat.le_of_ble_eq_true rfl) (fun _ => rfl) (fun v2_9 hv9 => ?_)
  subst hv9
  exact lp1 0 _ h9.1 ⟨by omega, FrH.rf.up (by omega) (by omega), by rw [kq_up_s]; exact hR.1, fun p p0 p1 => by omega⟩
/-- n hours on, all at once -/
def PassOf (a : RW) (n : Int) (b : RW) : Prop := b 0 = a 0 ∧ b 1 = a 1 ∧ b 2 = a 2 + n ∧ (∀ d, 0 ≤ d → d < a 0 → aD b d 0 = aD a d 0 ∧ aD b d 1 = aD a d 1 ∧ aD b d 2 = aD a d 2 ∧ aD b d 3 = aD a d 3 ∧ aD b d 4 = m_mx 0 (aD a d 4 - n * m_cl a d) ∧ aD b d 5 = if 0 < aD b d 4 then aD a d 5 else 9) ∧ ∀ p, 0 ≤ p → p < a 1 → aP b p 0 = aP a p 0 ∧ aP b p 1 = aP a p 1 ∧ aP b p 2 = m_mx 0 (aP a p 2 - n * 3)
theorem ev_X0_pass {n : Int} (hH : kq_H c) (hR : RepH σ c a) (ok : OkR a) (hn : 0 ≤ n ∧ n ≤ 60) (hb : PassOf a n b) : Ev l yX0_pass cX0_pass 3 none 2 44 [kr c, ki n] σ (fun r τ => r = none ∧ RepH τ c b ∧ FrH c σ τ) := by
  have h9 := ok.1
  have h6 := ok.2.1
  have h2 := ok.2.2.1
  obtain ⟨b0, b1, b2, bD, bP⟩ := hb
  have s11 : σ c 11 = a 2 := hR.2.2.1
  refine ev_intro ym_X0_pass.1 (Nat.le_of_ble_eq_true rfl) (fun hv hσ K S => ?_)
  have hv := hv
  show K 0 [some (kr c), some (ki n), none] [] σ
  refine kq_use (kq_for (α := KS) (a 1) (fun i ρ => 0 ≤ i ∧ FrH c σ ρ ∧ ρ c 0 = a 0 ∧ ρ c 7 = a 1 ∧ ρ c 11 = b 2 ∧ (∀ d, 0 ≤ d → d < a 0 → ρ (c + 1) d = aD b d 0 ∧ ρ (c + 2) d = aD b d 1 ∧ ρ (c + 3) d = aD b d 2 ∧ ρ (c + 4) d = aD b d 3 ∧ ρ (c + 5) d = aD b d 4 ∧ ρ (c + 6) d = aD b d 5) ∧ (∀ p, 0 ≤ p → p < a 1 → ρ (c + 7) p = aP b p 0 ∧ ρ (c + 8) p = aP b p 1) ∧ (∀ p, 0 ≤ p → p < i → ρ (c + 9) p = aP b p 2) ∧ ∀ p, i ≤ p → p < a 1 → ρ (c + 9) p = aP a p 2) (fun i ρ => K 61 [some (kr c), some (ki n), some (ki i)] [] ρ) ?_) (fun lp2 => ?_)
  · intro i ρ hi inv ih
    obtain ⟨i0, F, n0, n7, n11, hD, hP, hQ, hM⟩ := inv
    refine ks_iload_n (n := 62) S dX0_pass_61 rfl rfl ?_
    refine ks_aload_n (n := 63) S dX0_pass_62 rfl rfl ?_
    refine ks_getI (n := 66) (fi := 7) S dX0_pass_63 rfl fl_X0_34 hH.o rfl rfl ?_
    refine ks_icmp_ge (n := 69) (tgt := 87) S dX0_pass_66 rfl rfl (fun h66 => ?_) (fun h66 => ?_)
    · skip
      refine ks_vret S dX0_pass_87 ?_
      have hia : i = a 1 := by omega
      subst hia
      refine ⟨rfl, ⟨by rw [b0]; exact n0, by rw [b1]; exact n7, n11, by rw [b0]; exact hD, ?_⟩, F⟩
      rw [b1]
      exact fun p p0 p1 => ⟨(hP p p0 p1).1, (hP p p0 p1).2, hQ p p0 p1⟩
    · skip
      have g0 := hM i (by omega) (by omega)
      have o0 := (ok.2.2.2.2 i i0 (by omega)).2.2
      refine ks_aload_n (n := 70) S dX0_pass_69 rfl rfl ?_
      refine ks_getr (n := 73) S dX0_pass_70 rfl fl_X0_43 hH.o rfl ?_
      refine ks_iload_n (n := 74) S dX0_pass_73 rfl rfl ?_
      refine ks_aload_n (n := 75) S dX0_pass_74 rfl rfl ?_
      refine ks_iload_n (n := 76) S dX0_pass_75 rfl rfl ?_
      refine ks_iload_n (n := 77) S dX0_pass_76 rfl rfl ?_
      refine kf_v2i (n := 80) S dX0_pass_77 rfl ml_X0_90 ym_X0_moodAfter (ev_X0_moodAfter hH (by omega) (by rw [g0]; exact o0) hn) (by decide) hH.o (Nat.le_of_ble_eq_true rfl) ?_
      refine ks_iastore (n := 81) S dX0_pass_80 rfl hH.a9 (by omega) ?_
      refine ks_iinc (n := 84) S dX0_pass_81 rfl rfl (by omega) (L' := fun y => [some (kr c), some (ki n), some (ki y)]) (fun _ => rfl) (fun v2_81 hv81 => ?_)
      subst hv81
      refine ks_goto (n := 61) S dX0_pass_84 rfl ?_
      refine ih _ (by omega) ⟨by omega, F.up (by omega) (by omega), by rw [kq_up_c (by omega)]; exact n0, by rw [kq_up_c (by omega)]; exact n7, by rw [kq_up_c (by omega)]; exact n11, ?_, ?_, ?_, ?_⟩
      · intro d d0 d1
        obtain ⟨g1, g2, g3, g4, g5, g6⟩ := hD d d0 d1
        refine ⟨?_, ?_, ?_, ?_, ?_, ?_⟩ <;> (rw [kq_up_c (by omega)]; assumption)
      · intro p p0 p1
        obtain ⟨g1, g2⟩ := hP p p0 p1
        refine ⟨?_, ?_⟩ <;> (rw [kq_up_c (by omega)]; assumption)
      · intro p p0 p1
        by_cases hp : p = i
        · subst hp
          rw [kq_up_s, (bP p p0 (by omega)).2.2, g0]
        · rw [kq_up_i hp]; exact hQ p p0 (by omega)
      · intro p p0 p1
        rw [kq_up_i (by omega)]; exact hM p (by omega) p1
  refine kq_use (kq_for (α := KS) (a 0) (fun i ρ => 0 ≤ i ∧ FrH c σ ρ ∧ ρ c 0 = a 0 ∧ ρ c 7 = a 1 ∧ ρ c 11 = b 2 ∧ (∀ d, 0 ≤ d → d < a 0 → ρ (c + 1) d = aD a d 0 ∧ ρ (c + 2) d = aD a d 1 ∧ ρ (c + 3) d = aD a d 2 ∧ ρ (c + 4) d = aD a d 3) ∧ (∀ p, 0 ≤ p → p < a 1 → ρ (c + 7) p = aP a p 0 ∧ ρ (c + 8) p = aP a p 1 ∧ ρ (c + 9) p = aP a p 2) ∧ (∀ d, 0 ≤ d → d < i → ρ (c + 5) d = aD b d 4 ∧ ρ (c + 6) d = aD b d 5) ∧ ∀ d, i ≤ d → d < a 0 → ρ (c + 5) d = aD a d 4 ∧ ρ (c + 6) d = aD a d 5) (fun i ρ => K 12 [some (kr c), some (ki n), some (ki i)] [] ρ) ?_) (fun lp1 => ?_)
  · intro i ρ hi inv ih
    obtain ⟨i0, F, n0, n7, n11, hD, hP, hQ, hM⟩ := inv
    refine ks_iload_n (n := 13) S dX0_pass_12 rfl rfl ?_
    refine ks_aload_n (n := 14) S dX0_pass_13 rfl rfl ?_
    refine ks_getI (n := 17) (fi := 0) S dX0_pass_14 rfl fl_X0_9 hH.o rfl rfl ?_
    refine ks_icmp_ge (n := 20) (tgt := 59) S dX0_pass_17 rfl rfl (fun h17 => ?_) (fun h17 => ?_)
    · skip
      refine ks_iconst (n := 60) S dX0_pass_59 rfl (by unfold iv; decide) ?_
      refine ks_istore_n (n := 61) S dX0_pass_60 rfl rfl (L' := fun y => [some (kr c), some (ki n), some (ki y)]) (Nat.le_of_ble_eq_true rfl) (fun _ => rfl) (fun v2_60 hv60 => ?_)
      subst hv60
      have hia : i = a 0 := by omega
      subst hia
      refine lp2 0 _ h6.1 ⟨by omega, F, n0, n7, n11, ?_, ?_, fun p p0 p1 => by omega, fun p p0 p1 => (hP p p0 p1).2.2⟩
      · intro d d0 d1
        obtain ⟨g1, g2, g3, g4⟩ := hD d d0 d1
        obtain ⟨y1, y2, y3, y4, y5, y6⟩ := bD d d0 d1
        exact ⟨by rw [y1]; exact g1, by rw [y2]; exact g2, by rw [y3]; exact g3, by rw [y4]; exact g4, (hQ d d0 d1).1, (hQ d d0 d1).2⟩
      · intro p p0 p1
        obtain ⟨y1, y2, y3⟩ := bP p p0 p1
        rw [y1, y2]; exact ⟨(hP p p0 p1).1, (hP p p0 p1).2.1⟩
    · skip
      have g0 := hM i (by omega) (by omega)
      obtain ⟨o1, o2, o3, o4, o5, o6, o7, o8⟩ := ok.2.2.2.1 i i0 (by omega)
      obtain ⟨e1, e2, e3, e4⟩ := hD i i0 (by omega)
      refine ks_aload_n (n := 21) S dX0_pass_20 rfl rfl ?_
      refine ks_iload_n (n := 22) S dX0_pass_21 rfl rfl ?_
      refine ks_aload_n (n := 23) S dX0_pass_22 rfl rfl ?_
      refine ks_getr (n := 26) S dX0_pass_23 rfl fl_X0_15 hH.o rfl ?_
      refine ks_iload_n (n := 27) S dX0_pass_26 rfl rfl ?_
      refine ks_iaload (n := 28) S dX0_pass_27 rfl hH.a1 (by omega) ?_
      refine ks_aload_n (n := 29) S dX0_pass_28 rfl rfl ?_
      refine ks_getr (n := 32) S dX0_pass_29 rfl fl_X0_19 hH.o rfl ?_
      refine ks_iload_n (n := 33) S dX0_pass_32 rfl rfl ?_
      refine ks_iaload (n := 34) S dX0_pass_33 rfl hH.a2 (by omega) ?_
      refine ks_aload_n (n := 35) S dX0_pass_34 rfl rfl ?_
      refine ks_getr (n := 38) S dX0_pass_35 rfl fl_X0_28 hH.o rfl ?_
      refine ks_iload_n (n := 39) S dX0_pass_38 rfl rfl ?_
      refine ks_iaload (n := 40) S dX0_pass_39 rfl hH.a5 (by omega) ?_
      refine ks_iload_n (n := 41) S dX0_pass_40 rfl rfl ?_
      refine kf_s4i (n := 44) S dX0_pass_41 rfl ml_X0_63 ym_X1_cooled (ev_X1_cooled (by omega) (by omega) hn) (by decide) (Nat.le_of_ble_eq_true rfl) ?_
      refine ks_aload_n (n := 45) S dX0_pass_44 rfl rfl ?_
      refine ks_getr (n := 48) S dX0_pass_45 rfl fl_X0_31 hH.o rfl ?_
      refine ks_iload_n (n := 49) S dX0_pass_48 rfl rfl ?_
      refine ks_iaload (n := 50) S dX0_pass_49 rfl hH.a6 (by omega) ?_
      refine kf_v3v (n := 53) S dX0_pass_50 rfl ml_X0_80 ym_X0_fill (ev_X0_fill hH (by omega)) (by decide) hH.o (Nat.le_of_ble_eq_true rfl) ?_
      refine ks_iinc (n := 56) S dX0_pass_53 rfl rfl (by omega) (L' := fun y => [some (kr c), some (ki n), some (ki y)]) (fun _ => rfl) (fun v2_53 hv53 => ?_)
      subst hv53
      refine ks_goto (n := 12) S dX0_pass_56 rfl ?_
      refine ih _ (by omega) ⟨by omega, (F.up (by omega) (by omega)).up (by omega) (by omega), by rw [kq_up_c (by omega), kq_up_c (by omega)]; exact n0, by rw [kq_up_c (by omega), kq_up_c (by omega)]; exact n7, by rw [kq_up_c (by omega), kq_up_c (by omega)]; exact n11, ?_, ?_, ?_, ?_⟩
      · intro d d0 d1
        obtain ⟨g1, g2, g3, g4⟩ := hD d d0 d1
        refine ⟨?_, ?_, ?_, ?_⟩ <;> (rw [kq_up_c (by omega), kq_up_c (by omega)]; assumption)
      · intro p p0 p1
        obtain ⟨g1, g2, g3⟩ := hP p p0 p1
        refine ⟨?_, ?_, ?_⟩ <;> (rw [kq_up_c (by omega), kq_up_c (by omega)]; assumption)
      · intro p p0 p1
        by_cases hp : p = i
        · subst hp
          obtain ⟨y1, y2, y3, y4, y5, y6⟩ := bD p p0 (by omega)
          rw [kq_up_c (by omega), kq_up_s, kq_up_s, y6, y5, e1, e2, g0.1, g0.2]
          exact ⟨rfl, rfl⟩
        · rw [kq_up_i hp, kq_up_i hp, kq_up_i hp, kq_up_i hp]; exact hQ p p0 (by omega)
      · intro p p0 p1
        rw [kq_up_i (by omega), kq_up_i (by omega), kq_up_i (by omega), kq_up_i (by omega)]; exact hM p (by omega) p1
  refine ks_aload_n (n := 1) S dX0_pass_0 rfl rfl ?_
  refine ks_dup (n := 2) S dX0_pass_1 rfl rfl ?_
  refine ks_getI (n := 5) (fi := 11) S dX0_pass_2 rfl fl_X0_46 hH.o rfl rfl ?_
  refine ks_iload_n (n := 6) S dX0_pass_5 rfl rfl ?_
  refine ks_iadd (n := 7) S dX0_pass_6 rfl (by omega) ?_
  refine ks_putI (n := 10) (fi := 11) S dX0_pass_7 rfl fw_X0_46 hH.o rfl (Or.inl rfl) rfl ?_
  refine ks_iconst (n := 11) S dX0_pass_10 rfl (by unfold iv; decide) ?_
  refine ks_istore_n (n := 12) S dX0_pass_11 rfl rfl (L' := fun y => [some (kr c), some (ki n), some (ki y)]) (Nat.le_of_ble_eq_true rfl) (fun _ => rfl) (fun v2_11 hv11 => ?_)
  subst hv11
  refine lp1 0 _ h9.1 ⟨by omega, FrH.rf.up (by omega) (by omega), by rw [kq_up_i (by omega)]; exact hR.1, by rw [kq_up_i (by omega)]; exact hR.2.1, by rw [kq_up_s, b2, s11], ?_, ?_, fun p p0 p1 => by omega, ?_⟩
  · intro d d0 d1
    obtain ⟨g1, g2, g3, g4, g5, g6⟩ := hR.2.2.2.1 d d0 d1
    refine ⟨?_, ?_, ?_, ?_⟩ <;> (rw [kq_up_c (by omega)]; assumption)
  · intro p p0 p1
    obtain ⟨g1, g2, g3⟩ := hR.2.2.2.2 p p0 p1
    refine ⟨?_, ?_, ?_⟩ <;> (rw [kq_up_c (by omega)]; assumption)
  · intro d d0 d1
    obtain ⟨g1, g2, g3, g4, g5, g6⟩ := hR.2.2.2.1 d d0 d1
    refine ⟨?_, ?_⟩ <;> (rw [kq_up_c (by omega)]; assumption)
end HOUSE3

