section TELL7
variable {l : Launch} {σ : KS} {w a : RW} {n : Int} {c : Nat}
theorem m_sl_s {i b : Int} (hi : i < 96) : m_sl w n (96 - i).toNat b = if m_fp w n b = -9 then (if b + m_ln (m_at w n b) < n then m_sl w n (96 - (i + 1)).toNat (b + m_ln (m_at w n b)) else -9) else m_fp w n b := by
  rw [show (96 - i).toNat = (96 - (i + 1)).toNat + 1 by omega]
  rfl
theorem m_sc_s {i b : Int} (hi : i < 96) : m_sc w n (96 - i).toNat b = 1 + (if b + m_ln (m_at w n b) < n then m_sc w n (96 - (i + 1)).toNat (b + m_ln (m_at w n b)) else 0) := by
  rw [show (96 - i).toNat = (96 - (i + 1)).toNat + 1 by omega]
  rfl
theorem m_cf_s {i b : Int} (hi : i < 96) : m_cf w n (96 - i).toNat b a = if m_hqa a w n b then (if b + m_ln (m_at w n b) < n then m_cf w n (96 - (i + 1)).toNat (b + m_ln (m_at w n b)) (m_hwa a w n b) else -9) else b := by
  rw [show (96 - i).toNat = (96 - (i + 1)).toNat + 1 by omega]
  rfl
theorem m_ca_s {i b : Int} (hi : i < 96) : m_ca w n (96 - i).toNat b a = if b + m_ln (m_at w n b) < n then m_ca w n (96 - (i + 1)).toNat (b + m_ln (m_at w n b)) (m_hwa a w n b) else m_hwa a w n b := by
  rw [show (96 - i).toNat = (96 - (i + 1)).toNat + 1 by omega]
  rfl
theorem m_sl_0 (h : n = 0) : m_sl w n 96 0 = 0 := by
  have h1 : m_at w n 0 = -9 := by unfold m_at; rw [if_neg (by omega)]
  have h2 : m_fp w n 0 = 0 := m_fp_z (by rw [h1]; decide)
  show m_sl w n (95 + 1) 0 = 0
  unfold m_sl
  rw [h2, if_neg (by decide)]
theorem ev_X2_misspelling (h : m_LT σ w n) : Ev l yX2_misspelling cX2_misspelling 5 (some .int) 3 65 [kr 31] σ (Rt (some (ki (if m_sl w n 96 0 = -9 then 0 else -1000 - m_sl w n 96 0))) σ) := by
  have e1 := h.1
  have e2 := h.2.1
  have z0 : n = 0 → m_sl w n 96 0 = 0 := m_sl_0
  refine ev_intro ym_X2_misspelling.1 (Nat.le_of_ble_eq_true rfl) (fun hv hσ K S => ?_)
  have hv := hv
  show K 0 [some (kr 31), none, none, none, none] [] σ
  refine kq_use (kq_for (α := Int) 96 (fun i b => 0 ≤ i ∧ 3 * i ≤ b ∧ ((b < n ∧ m_sl w n (96 - i).toNat b = m_sl w n 96 0) ∨ (b = n ∧ m_sl w n 96 0 = -9))) (fun i b => K 15 [some (kr 31), some (ki b), some (ki i), none, none] [] σ) ?_) (fun lp => ?_)
  · intro i b hi inv ih
    obtain ⟨i0, i1, vv⟩ := inv
    have hl := m_ln_b (v := m_at w n b)
    refine kq_use (p := b < n → m_ln (m_at w n b) ≠ 0 → K 53 [some (kr 31), some (ki b), some (ki i), some (ki (m_ln (m_at w n b))), some (ki (b + 1))] [] σ) ?_ (fun h53 => ?_)
    · intro bn k0
      have hs := m_sl_s (w := w) (n := n) (i := i) (b := b) (by omega)
      refine kq_for (α := Unit) (b + m_ln (m_at w n b)) (fun j _ => b < j ∧ ∀ j', b < j' → j' < j → m_ft w n j' b (m_ln (m_at w n b))) (fun j _ => K 53 [some (kr 31), some (ki b), some (ki i), some (ki (m_ln (m_at w n b))), some (ki j)] [] σ) ?_ (b + 1) () (by omega) ⟨by omega, fun j' y1 y2 => by omega⟩
      intro j _ hj iv2 ih2
      obtain ⟨j0, jf⟩ := iv2
      refine ks_iload (n := 55) S dX2_misspelling_53 rfl rfl ?_
      refine ks_iload_n (n := 56) S dX2_misspelling_55 rfl rfl ?_
      refine ks_iload_n (n := 57) S dX2_misspelling_56 rfl rfl ?_
      refine ks_iadd (n := 58) S dX2_misspelling_57 rfl (by omega) ?_
      refine ks_icmp_ge (n := 61) (tgt := 85) S dX2_misspelling_58 rfl rfl (fun h58 => ?_) (fun h58 => ?_)
      · skip
        refine ks_iload_n (n := 86) S dX2_misspelling_85 rfl rfl ?_
        refine ks_iload_n (n := 87) S dX2_misspelling_86 rfl rfl ?_
        refine ks_iadd (n := 88) S dX2_misspelling_87 rfl (by omega) ?_
        refine ks_istore_n (n := 89) S dX2_misspelling_88 rfl rfl (L' := fun yy => [some (kr 31), some (ki yy), some (ki i), some (ki (m_ln (m_at w n b))), some (ki j)]) (Nat.le_of_ble_eq_true rfl) (fun _ => rfl) (fun v1_88 hv88 => ?_)
        subst v1_88
        refine ks_iinc (n := 92) S dX2_misspelling_89 rfl rfl (by omega) (L' := fun yy => [some (kr 31), some (ki _), some (ki yy), some (ki (m_ln (m_at w n b))), some (ki j)]) (fun _ => rfl) (fun v2_89 hv89 => ?_)
        subst v2_89
        refine ks_goto (n := 15) S dX2_misspelling_92 rfl ?_
        refine ks_weak (L' := [some (kr 31), some (ki _), some (ki _), none, none]) S ((And.intro rfl (And.intro rfl (And.intro rfl True.intro)))) ?_
        have hp := m_fp_ok (w := w) (n := n) (b := b) rfl (by omega) (fun j' y1 y2 => jf j' y1 (by omega))
        have he := m_fp_end (by omega) hp
        rw [if_pos hp] at hs
        refine ih _ (by omega) ⟨by omega, by omega, ?_⟩
        by_cases hx : b + m_ln (m_at w n b) < n
        · rw [if_pos hx] at hs
          exact Or.inl ⟨hx, by omega⟩
        · rw [if_neg hx] at hs
          exact Or.inr ⟨by omega, by omega⟩
      · skip
        refine ks_aload_n (n := 62) S dX2_misspelling_61 rfl rfl ?_
        refine ks_iload (n := 64) S dX2_misspelling_62 rfl rfl ?_
        refine ks_iload_n (n := 65) S dX2_misspelling_64 rfl rfl ?_
        refine ks_iload_n (n := 66) S dX2_misspelling_65 rfl rfl ?_
        refine kf_v3z (n := 69) S dX2_misspelling_66 rfl ml_X2_33 ym_X2_fits (ev_X2_fits h (by omega) (by omega)) (by decide) rfl (Nat.le_of_ble_eq_true rfl) ?_
        refine ks_if_ne (n := 72) (tgt := 79) S dX2_misspelling_69 rfl rfl (fun h69 => ?_) (fun h69 => ?_)
        · skip
          simp only [bi_eq, bi_ne, Classical.not_not] at h69
          refine ks_iinc (n := 82) S dX2_misspelling_79 rfl rfl (by omega) (L' := fun yy => [some (kr 31), some (ki b), some (ki i), some (ki (m_ln (m_at w n b))), some (ki yy)]) (fun _ => rfl) (fun v4_79 hv79 => ?_)
          subst v4_79
          refine ks_goto (n := 53) S dX2_misspelling_82 rfl ?_
          exact ih2 () (by omega) ⟨by omega, fun j' y1 y2 => by
            by_cases hj' : j' = j
            · rw [hj']; exact h69
            · exact jf j' y1 (by omega)⟩
        · skip
          simp only [bi_eq, bi_ne, Classical.not_not] at h69
          refine ks_sipush (n := 75) S dX2_misspelling_72 rfl (by unfold iv; decide) ?_
          refine ks_iload (n := 77) S dX2_misspelling_75 rfl rfl ?_
          refine ks_isub (n := 78) S dX2_misspelling_77 rfl (by omega) ?_
          refine ks_iret S dX2_misspelling_78 ?_
          have hp := m_fp_bad rfl (by omega) (by omega) jf h69
          rw [hp, if_neg (by omega)] at hs
          exact rt_e (by rw [show m_sl w n 96 0 = j by omega, if_neg (by omega)])
    refine ks_iload_n (n := 16) S dX2_misspelling_15 rfl rfl ?_
    refine ks_bipush (n := 18) S dX2_misspelling_16 rfl (by unfold iv; decide) ?_
    refine ks_icmp_ge (n := 21) (tgt := 95) S dX2_misspelling_18 rfl rfl (fun h18 => ?_) (fun h18 => ?_)
    · skip
      refine ks_iconst (n := 96) S dX2_misspelling_95 rfl (by unfold iv; decide) ?_
      refine ks_iret S dX2_misspelling_96 ?_
      exact rt_e (by rw [show m_sl w n 96 0 = -9 by omega]; rfl)
    · skip
      refine ks_iload_n (n := 22) S dX2_misspelling_21 rfl rfl ?_
      refine ks_aload_n (n := 23) S dX2_misspelling_22 rfl rfl ?_
      refine ks_getI (n := 26) (fi := 1) S dX2_misspelling_23 rfl fl_X2_15 rfl rfl rfl ?_
      refine ks_icmp_ge (n := 29) (tgt := 95) S dX2_misspelling_26 rfl rfl (fun h26 => ?_) (fun h26 => ?_)
      · skip
        refine ks_iconst (n := 96) S dX2_misspelling_95 rfl (by unfold iv; decide) ?_
        refine ks_iret S dX2_misspelling_96 ?_
        exact rt_e (by rw [show m_sl w n 96 0 = -9 by omega]; rfl)
      · skip
        refine ks_aload_n (n := 30) S dX2_misspelling_29 rfl rfl ?_
        refine ks_iload_n (n := 31) S dX2_misspelling_30 rfl rfl ?_
        refine kf_v1i (n := 34) S dX2_misspelling_31 rfl ml_X2_19 ym_X2_at (ev_X2_at h) (by decide) rfl (Nat.le_of_ble_eq_true rfl) ?_
        refine kf_s1i (n := 37) S dX2_misspelling_34 rfl ml_X2_30 ym_X2_lengthOf (ev_X2_lengthOf) (by decide) (Nat.le_of_ble_eq_true rfl) ?_
        refine ks_istore_n (n := 38) S dX2_misspelling_37 rfl rfl (L' := fun yy => [some (kr 31), some (ki b), some (ki i), some (ki yy), none]) (Nat.le_of_ble_eq_true rfl) (fun _ => rfl) (fun v3_37 hv37 => ?_)
        subst v3_37
        refine ks_iload_n (n := 39) S dX2_misspelling_38 rfl rfl ?_
        refine ks_if_ne (n := 42) (tgt := 48) S dX2_misspelling_39 rfl rfl (fun h39 => ?_) (fun h39 => ?_)
        · skip
          refine ks_iload_n (n := 49) S dX2_misspelling_48 rfl rfl ?_
          refine ks_iconst (n := 50) S dX2_misspelling_49 rfl (by unfold iv; decide) ?_
          refine ks_iadd (n := 51) S dX2_misspelling_50 rfl (by omega) ?_
          refine ks_istore (n := 53) S dX2_misspelling_51 rfl (L' := fun yy => [some (kr 31), some (ki b), some (ki i), some (ki _), some (ki yy)]) (Nat.le_of_ble_eq_true rfl) (fun _ => rfl) (fun v4_51 hv51 => ?_)
          subst v4_51
          exact h53 (by omega) (by omega)
        · skip
          refine ks_sipush (n := 45) S dX2_misspelling_42 rfl (by unfold iv; decide) ?_
          refine ks_iload_n (n := 46) S dX2_misspelling_45 rfl rfl ?_
          refine ks_isub (n := 47) S dX2_misspelling_46 rfl (by omega) ?_
          refine ks_iret S dX2_misspelling_47 ?_
          have hs := m_sl_s (w := w) (n := n) (i := i) (b := b) (by omega)
          rw [m_fp_z (by omega), if_neg (by omega)] at hs
          exact rt_e (by rw [show m_sl w n 96 0 = b by omega, if_neg (by omega)])
  refine ks_aload_n (n := 1) S dX2_misspelling_0 rfl rfl ?_
  refine ks_getI (n := 4) (fi := 1) S dX2_misspelling_1 rfl fl_X2_15 rfl rfl rfl ?_
  refine ks_if_ne (n := 7) (tgt := 11) S dX2_misspelling_4 rfl rfl (fun h4 => ?_) (fun h4 => ?_)
  · skip
    refine ks_iconst (n := 12) S dX2_misspelling_11 rfl (by unfold iv; decide) ?_
    refine ks_istore_n (n := 13) S dX2_misspelling_12 rfl rfl (L' := fun yy => [some (kr 31), some (ki yy), none, none, none]) (Nat.le_of_ble_eq_true rfl) (fun _ => rfl) (fun v1_12 hv12 => ?_)
    obtain rfl : v1_12 = 0 := by omega
    refine ks_iconst (n := 14) S dX2_misspelling_13 rfl (by unfold iv; decide) ?_
    refine ks_istore_n (n := 15) S dX2_misspelling_14 rfl rfl (L' := fun yy => [some (kr 31), some (ki (0)), some (ki yy), none, none]) (Nat.le_of_ble_eq_true rfl) (fun _ => rfl) (fun v2_14 hv14 => ?_)
    obtain rfl : v2_14 = 0 := by omega
    exact lp 0 0 (by omega) ⟨by omega, by omega, Or.inl ⟨by omega, rfl⟩⟩
  · skip
    refine ks_sipush (n := 10) S dX2_misspelling_7 rfl (by unfold iv; decide) ?_
    refine ks_iret S dX2_misspelling_10 ?_
    exact rt_e (by rw [z0 (by omega)]; rfl)
theorem hap_to {p q : Prop} [Decidable p] [Decidable q] {x y a : RW} {r : Option KV} {τ : KS} (hpq : p ↔ q) (hxy : x = y) (h : r = some (ki (bi p)) ∧ RepH τ c (if p then x else a) ∧ FrH c σ τ) : r = some (ki (bi q)) ∧ RepH τ c (if q then y else a) ∧ FrH c σ τ := by
  subst hxy
  by_cases hp : p
  · rw [bi_t hp, if_pos hp] at h
    rw [bi_t (hpq.1 hp), if_pos (hpq.1 hp)]
    exact h
  · rw [bi_f hp, if_neg hp] at h
    rw [bi_f (fun y => hp (hpq.2 y)), if_neg (fun y => hp (hpq.2 y))]
    exact h
theorem ev_X2_happens {b : Int} (h : m_LT σ w n) (hH : kq_H c) (hR : RepH σ c a) (ok : OkR a) (h2 : a 2 ≤ 999) (hb : 0 ≤ b ∧ b ≤ 150) : Ev l yX2_happens cX2_happens 3 (some .boolean) 4 88 [kr 31, kr c, ki b] σ (fun r τ => r = some (ki (bi (m_hqa a w n b))) ∧ RepH τ c (if m_hqa a w n b then m_hwa a w n b else a) ∧ FrH c σ τ) := by
  have d1 := m_dg_b (w := w) (n := n) (j := b + 1)
  have d2 := m_dg_b (w := w) (n := n) (j := b + 2)
  have d3 := m_dg_b (w := w) (n := n) (j := b + 3)
  have d11 : m_dg w n (b + 1 + 1) = m_dg w n (b + 2) := by rw [show b + 1 + 1 = b + 2 by omega]
  have d21 : m_dg w n (b + 2 + 1) = m_dg w n (b + 3) := by rw [show b + 2 + 1 = b + 3 by omega]
  refine ev_intro ym_X2_happens.1 (Nat.le_of_ble_eq_true rfl) (fun hv hσ K S => ?_)
  have hv := hv
  show K 0 [some (kr 31), some (kr c), some (ki b)] [] σ
  refine ks_aload_n (n := 1) S dX2_happens_0 rfl rfl ?_
  refine ks_iload_n (n := 2) S dX2_happens_1 rfl rfl ?_
  refine kf_v1i (n := 5) S dX2_happens_2 rfl ml_X2_19 ym_X2_at (ev_X2_at h) (by decide) rfl (Nat.le_of_ble_eq_true rfl) ?_
  refine ks_table S (tdf := 212) [188, 212, 212, 88, 212, 212, 212, 200, 212, 212, 212, 212, 212, 212, 143, 124, 162] dX2_happens_5 (by decide) (by decide) rfl (fun h5 => ?_) (And.intro (fun h5 => ?_) (And.intro (fun h5 => ?_) (And.intro (fun h5 => ?_) (And.intro (fun h5 => ?_) (And.intro (fun h5 => ?_) (And.intro (fun h5 => ?_) (And.intro (fun h5 => ?_) (And.intro (fun h5 => ?_) (And.intro (fun h5 => ?_) (And.intro (fun h5 => ?_) (And.intro (fun h5 => ?_) (And.intro (fun h5 => ?_) (And.intro (fun h5 => ?_) (And.intro (fun h5 => ?_) (And.intro (fun h5 => ?_) (And.intro (fun h5 => ?_) (And.intro (fun h5 => ?_) trivial)))))))))))))))))
  · skip
    refine ks_iconst (n := 213) S dX2_happens_212 rfl (by unfold iv; decide) ?_
    refine ks_zret S dX2_happens_213 (by first | exact Or.inl rfl | exact Or.inr rfl | exact bi_01) ?_
    have hz : ¬ m_hqa a w n b := by
      unfold m_hqa m_hq
      omega
    refine ⟨by rw [bi_f hz], ?_, FrH.rf⟩
    rw [if_neg hz]; exact hR
  · skip
    refine ks_aload_n (n := 189) S dX2_happens_188 rfl rfl ?_
    refine ks_aload_n (n := 190) S dX2_happens_189 rfl rfl ?_
    refine ks_iload_n (n := 191) S dX2_happens_190 rfl rfl ?_
    refine ks_iconst (n := 192) S dX2_happens_191 rfl (by unfold iv; decide) ?_
    refine ks_iadd (n := 193) S dX2_happens_192 rfl (by omega) ?_
    refine kf_v1i (n := 196) S dX2_happens_193 rfl ml_X2_27 ym_X2_digit (ev_X2_digit h) (by decide) rfl (Nat.le_of_ble_eq_true rfl) ?_
    refine ks_s2z (n := 199) S dX2_happens_196 rfl ml_X2_67 ym_X2_isAired (ev_X2_isAired hH hR ok) (by decide) (Nat.le_of_ble_eq_true rfl) (fun r196 τ196 q196 => ?_)
    obtain ⟨y1, y2, y3⟩ := q196
    have y1 := kq_si y1
    subst y1
    refine ks_zret S dX2_happens_199 (by first | exact Or.inl rfl | exact Or.inr rfl | exact bi_01) ?_
    have x0 : m_x0 w n b = m_dg w n (b + 1) := by unfold m_x0; rw [if_neg (show ¬ m_at w n b = 100 by omega), if_neg (show ¬ m_at w n b = 104 by omega)]
    refine hap_to ?_ ?_ ⟨rfl, y2, y3⟩
    · unfold m_hqa m_hq
      rw [x0]
      constructor <;> intro hyp <;> omega
    · unfold m_hwa m_hw
      rw [x0, if_neg (show ¬ m_at w n b = 100 by omega), if_neg (show ¬ m_at w n b = 112 by omega), if_neg (show ¬ m_at w n b = 111 by omega), if_neg (show ¬ m_at w n b = 113 by omega), if_pos (show m_at w n b = 97 by omega)]
  · skip
    refine ks_iconst (n := 213) S dX2_happens_212 rfl (by unfold iv; decide) ?_
    refine ks_zret S dX2_happens_213 (by first | exact Or.inl rfl | exact Or.inr rfl | exact bi_01) ?_
    have hz : ¬ m_hqa a w n b := by
      unfold m_hqa m_hq
      omega
    refine ⟨by rw [bi_f hz], ?_, FrH.rf⟩
    rw [if_neg hz]; exact hR
  · skip
    refine ks_iconst (n := 213) S dX2_happens_212 rfl (by unfold iv; decide) ?_
    refine ks_zret S dX2_happens_213 (by first | exact Or.inl rfl | exact Or.inr rfl | exact bi_01) ?_
    have hz : ¬ m_hqa a w n b := by
      unfold m_hqa m_hq
      omega
    refine ⟨by rw [bi_f hz], ?_, FrH.rf⟩
    rw [if_neg hz]; exact hR
  · skip
    refine ks_aload_n (n := 89) S dX2_happens_88 rfl rfl ?_
    refine ks_aload_n (n := 90) S dX2_happens_89 rfl rfl ?_
    refine ks_iload_n (n := 91) S dX2_happens_90 rfl rfl ?_
    refine ks_iconst (n := 92) S dX2_happens_91 rfl (by unfold iv; decide) ?_
    refine ks_iadd (n := 93) S dX2_happens_92 rfl (by omega) ?_
    refine kf_v1i (n := 96) S dX2_happens_93 rfl ml_X2_19 ym_X2_at (ev_X2_at h) (by decide) rfl (Nat.le_of_ble_eq_true rfl) ?_
    refine kf_s1i (n := 99) S dX2_happens_96 rfl ml_X2_37 ym_X1_ofLetter (ev_X1_ofLetter) (by decide) (Nat.le_of_ble_eq_true rfl) ?_
    refine ks_aload_n (n := 100) S dX2_happens_99 rfl rfl ?_
    refine ks_iload_n (n := 101) S dX2_happens_100 rfl rfl ?_
    refine ks_iconst (n := 102) S dX2_happens_101 rfl (by unfold iv; decide) ?_
    refine ks_iadd (n := 103) S dX2_happens_102 rfl (by omega) ?_
    refine kf_v1i (n := 106) S dX2_happens_103 rfl ml_X2_27 ym_X2_digit (ev_X2_digit h) (by decide) rfl (Nat.le_of_ble_eq_true rfl) ?_
    refine ks_aload_n (n := 107) S dX2_happens_106 rfl rfl ?_
    refine ks_iload_n (n := 108) S dX2_happens_107 rfl rfl ?_
    refine ks_iconst (n := 109) S dX2_happens_108 rfl (by unfold iv; decide) ?_
    refine ks_iadd (n := 110) S dX2_happens_109 rfl (by omega) ?_
    refine kf_v1i (n := 113) S dX2_happens_110 rfl ml_X2_27 ym_X2_digit (ev_X2_digit h) (by decide) rfl (Nat.le_of_ble_eq_true rfl) ?_
    refine ks_aload_n (n := 114) S dX2_happens_113 rfl rfl ?_
    refine ks_iload_n (n := 115) S dX2_happens_114 rfl rfl ?_
    refine ks_iconst (n := 116) S dX2_happens_115 rfl (by unfold iv; decide) ?_
    refine ks_iadd (n := 117) S dX2_happens_116 rfl (by omega) ?_
    refine kf_v1i (n := 120) S dX2_happens_117 rfl ml_X2_27 ym_X2_digit (ev_X2_digit h) (by decide) rfl (Nat.le_of_ble_eq_true rfl) ?_
    refine ks_v4z (n := 123) S dX2_happens_120 rfl ml_X2_46 ym_X0_addDoor (ev_X0_addDoor hH hR ok) (by decide) hH.o (Nat.le_of_ble_eq_true rfl) (fun r120 τ120 q120 => ?_)
    obtain ⟨y1, y2, y3⟩ := q120
    have y1 := kq_si y1
    subst y1
    refine ks_zret S dX2_happens_123 (by first | exact Or.inl rfl | exact Or.inr rfl | exact bi_01) ?_
    refine hap_to ?_ ?_ ⟨rfl, y2, y3⟩
    · unfold m_hqa m_hq m_x0 m_x1 m_x2 m_x3
      rw [if_neg (show ¬ m_at w n b = 113 by omega)]
      constructor <;> intro hyp <;> omega
    · unfold m_hwa m_hw m_x0 m_x1 m_x2 m_x3
      rw [if_pos (show m_at w n b = 100 by omega), if_pos (show m_at w n b = 100 by omega), if_neg (show ¬ m_at w n b = 113 by omega), if_neg (show ¬ m_at w n b = 113 by omega)]
  · skip
    refine ks_iconst (n := 213) S dX2_happens_212 rfl (by unfold iv; decide) ?_
    refine ks_zret S dX2_happens_213 (by first | exact Or.inl rfl | exact Or.inr rfl | exact bi_01) ?_
    have hz : ¬ m_hqa a w n b := by
      unfold m_hqa m_hq
      omega
    refine ⟨by rw [bi_f hz], ?_, FrH.rf⟩
    rw [if_neg hz]; exact hR
  · skip
    refine ks_iconst (n := 213) S dX2_happens_212 rfl (by unfold iv; decide) ?_
    refine ks_zret S dX2_happens_213 (by first | exact Or.inl rfl | exact Or.inr rfl | exact bi_01) ?_
    have hz : ¬ m_hqa a w n b := by
      unfold m_hqa m_hq
      omega
    refine ⟨by rw [bi_f hz], ?_, FrH.rf⟩
    rw [if_neg hz]; exact hR
  · skip
    refine ks_iconst (n := 213) S dX2_happens_212 rfl (by unfold iv; decide) ?_
    refine ks_zret S dX2_happens_213 (by first | exact Or.inl rfl | exact Or.inr rfl | exact bi_01) ?_
    have hz : ¬ m_hqa a w n b := by
      unfold m_hqa m_hq
      omega
    refine ⟨by rw [bi_f hz], ?_, FrH.rf⟩
    rw [if_neg hz]; exact hR
  · skip
    refine ks_aload_n (n := 201) S dX2_happens_200 rfl rfl ?_
    refine ks_aload_n (n := 202) S dX2_happens_201 rfl rfl ?_
    refine ks_iload_n (n := 203) S dX2_happens_202 rfl rfl ?_
    refine ks_iconst (n := 204) S dX2_happens_203 rfl (by unfold iv; decide) ?_
    refine ks_iadd (n := 205) S dX2_happens_204 rfl (by omega) ?_
    refine kf_v1i (n := 208) S dX2_happens_205 rfl ml_X2_60 ym_X2_twoDigits (ev_X2_twoDigits h (by omega)) (by decide) rfl (Nat.le_of_ble_eq_true rfl) ?_
    refine ks_s2z (n := 211) S dX2_happens_208 rfl ml_X2_70 ym_X2_goBy (ev_X2_goBy hH hR ok (by omega) h2) (by decide) (Nat.le_of_ble_eq_true rfl) (fun r208 τ208 q208 => ?_)
    obtain ⟨y1, y2, y3⟩ := q208
    have y1 := kq_si y1
    subst y1
    refine ks_zret S dX2_happens_211 (by first | exact Or.inl rfl | exact Or.inr rfl | exact bi_01) ?_
    have x0 : m_x0 w n b = 10 * m_dg w n (b + 1) + m_dg w n (b + 1 + 1) := by unfold m_x0; rw [if_neg (show ¬ m_at w n b = 100 by omega), if_pos (show m_at w n b = 104 by omega), d11]
    refine hap_to ?_ ?_ ⟨rfl, y2, y3⟩
    · unfold m_hqa m_hq
      rw [x0]
      constructor <;> intro hyp <;> omega
    · unfold m_hwa m_hw
      rw [x0, if_neg (show ¬ m_at w n b = 100 by omega), if_neg (show ¬ m_at w n b = 112 by omega), if_neg (show ¬ m_at w n b = 111 by omega), if_neg (show ¬ m_at w n b = 113 by omega), if_neg (show ¬ m_at w n b = 97 by omega)]
  · skip
    refine ks_iconst (n := 213) S dX2_happens_212 rfl (by unfold iv; decide) ?_
    refine ks_zret S dX2_happens_213 (by first | exact Or.inl rfl | exact Or.inr rfl | exact bi_01) ?_
    have hz : ¬ m_hqa a w n b := by
      unfold m_hqa m_hq
      omega
    refine ⟨by rw [bi_f hz], ?_, FrH.rf⟩
    rw [if_neg hz]; exact hR
  · skip
    refine ks_iconst (n := 213) S dX2_happens_212 rfl (by unfold iv; decide) ?_
    refine ks_zret S dX2_happens_213 (by first | exact Or.inl rfl | exact Or.inr rfl | exact bi_01) ?_
    have hz : ¬ m_hqa a w n b := by
      unfold m_hqa m_hq
      omega
    refine ⟨by rw [bi_f hz], ?_, FrH.rf⟩
    rw [if_neg hz]; exact hR
  · skip
    refine ks_iconst (n := 213) S dX2_happens_212 rfl (by unfold iv; decide) ?_
    refine ks_zret S dX2_happens_213 (by first | exact Or.inl rfl | exact Or.inr rfl | exact bi_01) ?_
    have hz : ¬ m_hqa a w n b := by
      unfold m_hqa m_hq
      omega
    refine ⟨by rw [bi_f hz], ?_, FrH.rf⟩
    rw [if_neg hz]; exact hR
  · skip
    refine ks_iconst (n := 213) S dX2_happens_212 rfl (by unfold iv; decide) ?_
    refine ks_zret S dX2_happens_213 (by first | exact Or.inl rfl | exact Or.inr rfl | exact bi_01) ?_
    have hz : ¬ m_hqa a w n b := by
      unfold m_hqa m_hq
      omega
    refine ⟨by rw [bi_f hz], ?_, FrH.rf⟩
    rw [if_neg hz]; exact hR
  · skip
    refine ks_iconst (n := 213) S dX2_happens_212 rfl (by unfold iv; decide) ?_
    refine ks_zret S dX2_happens_213 (by first | exact Or.inl rfl | exact Or.inr rfl | exact bi_01) ?_
    have hz : ¬ m_hqa a w n b := by
      unfold m_hqa m_hq
      omega
    refine ⟨by rw [bi_f hz], ?_, FrH.rf⟩
    rw [if_neg hz]; exact hR
  · skip
    refine ks_iconst (n := 213) S dX2_happens_212 rfl (by unfold iv; decide) ?_
    refine ks_zret S dX2_happens_213 (by first | exact Or.inl rfl | exact Or.inr rfl | exact bi_01) ?_
    have hz : ¬ m_hqa a w n b := by
      unfold m_hqa m_hq
      omega
    refine ⟨by rw [bi_f hz], ?_, FrH.rf⟩
    rw [if_neg hz]; exact hR
  · skip
    refine ks_aload_n (n := 144) S dX2_happens_143 rfl rfl ?_
    refine ks_aload_n (n := 145) S dX2_happens_144 rfl rfl ?_
    refine ks_iload_n (n := 146) S dX2_happens_145 rfl rfl ?_
    refine ks_iconst (n := 147) S dX2_happens_146 rfl (by unfold iv; decide) ?_
    refine ks_iadd (n := 148) S dX2_happens_147 rfl (by omega) ?_
    refine kf_v1i (n := 151) S dX2_happens_148 rfl ml_X2_27 ym_X2_digit (ev_X2_digit h) (by decide) rfl (Nat.le_of_ble_eq_true rfl) ?_
    refine ks_aload_n (n := 152) S dX2_happens_151 rfl rfl ?_
    refine ks_iload_n (n := 153) S dX2_happens_152 rfl rfl ?_
    refine ks_iconst (n := 154) S dX2_happens_153 rfl (by unfold iv; decide) ?_
    refine ks_iadd (n := 155) S dX2_happens_154 rfl (by omega) ?_
    refine kf_v1i (n := 158) S dX2_happens_155 rfl ml_X2_27 ym_X2_digit (ev_X2_digit h) (by decide) rfl (Nat.le_of_ble_eq_true rfl) ?_
    refine ks_s3z (n := 161) S dX2_happens_158 rfl ml_X2_56 ym_X2_isOpened (ev_X2_isOpened hH hR ok) (by decide) (Nat.le_of_ble_eq_true rfl) (fun r158 τ158 q158 => ?_)
    obtain ⟨y1, y2, y3⟩ := q158
    have y1 := kq_si y1
    subst y1
    refine ks_zret S dX2_happens_161 (by first | exact Or.inl rfl | exact Or.inr rfl | exact bi_01) ?_
    have x0 : m_x0 w n b = m_dg w n (b + 1) := by unfold m_x0; rw [if_neg (show ¬ m_at w n b = 100 by omega), if_neg (show ¬ m_at w n b = 104 by omega)]
    have x1 : m_x1 w n b = m_dg w n (b + 2) := by unfold m_x1; rw [if_neg (show ¬ m_at w n b = 113 by omega)]
    refine hap_to ?_ ?_ ⟨rfl, y2, y3⟩
    · unfold m_hqa m_hq
      rw [x0, x1]
      constructor <;> intro hyp <;> omega
    · unfold m_hwa m_hw
      rw [x0, x1, if_neg (show ¬ m_at w n b = 100 by omega), if_neg (show ¬ m_at w n b = 112 by omega), if_pos (show m_at w n b = 111 by omega)]
  · skip
    refine ks_aload_n (n := 125) S dX2_happens_124 rfl rfl ?_
    refine ks_aload_n (n := 126) S dX2_happens_125 rfl rfl ?_
    refine ks_iload_n (n := 127) S dX2_happens_126 rfl rfl ?_
    refine ks_iconst (n := 128) S dX2_happens_127 rfl (by unfold iv; decide) ?_
    refine ks_iadd (n := 129) S dX2_happens_128 rfl (by omega) ?_
    refine kf_v1i (n := 132) S dX2_happens_129 rfl ml_X2_27 ym_X2_digit (ev_X2_digit h) (by decide) rfl (Nat.le_of_ble_eq_true rfl) ?_
    refine ks_aload_n (n := 133) S dX2_happens_132 rfl rfl ?_
    refine ks_iload_n (n := 134) S dX2_happens_133 rfl rfl ?_
    refine ks_iconst (n := 135) S dX2_happens_134 rfl (by unfold iv; decide) ?_
    refine ks_iadd (n := 136) S dX2_happens_135 rfl (by omega) ?_
    refine kf_v1i (n := 139) S dX2_happens_136 rfl ml_X2_27 ym_X2_digit (ev_X2_digit h) (by decide) rfl (Nat.le_of_ble_eq_true rfl) ?_
    refine ks_v2z (n := 142) S dX2_happens_139 rfl ml_X2_52 ym_X0_addPerson (ev_X0_addPerson hH hR ok) (by decide) hH.o (Nat.le_of_ble_eq_true rfl) (fun r139 τ139 q139 => ?_)
    obtain ⟨y1, y2, y3⟩ := q139
    have y1 := kq_si y1
    subst y1
    refine ks_zret S dX2_happens_142 (by first | exact Or.inl rfl | exact Or.inr rfl | exact bi_01) ?_
    refine hap_to ?_ ?_ ⟨rfl, y2, y3⟩
    · unfold m_hqa m_hq m_x0 m_x1 m_x2 m_x3
      rw [if_neg (show ¬ m_at w n b = 113 by omega)]
      constructor <;> intro hyp <;> omega
    · unfold m_hwa m_hw m_x0 m_x1 m_x2 m_x3
      rw [if_neg (show ¬ m_at w n b = 100 by omega), if_pos (show m_at w n b = 112 by omega), if_neg (show ¬ m_at w n b = 100 by omega), if_neg (show ¬ m_at w n b = 104 by omega), if_neg (show ¬ m_at w n b = 113 by omega)]
  · skip
    refine ks_aload_n (n := 163) S dX2_happens_162 rfl rfl ?_
    refine ks_aload_n (n := 164) S dX2_happens_163 rfl rfl ?_
    refine ks_iload_n (n := 165) S dX2_happens_164 rfl rfl ?_
    refine ks_iconst (n := 166) S dX2_happens_165 rfl (by unfold iv; decide) ?_
    refine ks_iadd (n := 167) S dX2_happens_166 rfl (by omega) ?_
    refine kf_v1i (n := 170) S dX2_happens_167 rfl ml_X2_27 ym_X2_digit (ev_X2_digit h) (by decide) rfl (Nat.le_of_ble_eq_true rfl) ?_
    refine ks_aload_n (n := 171) S dX2_happens_170 rfl rfl ?_
    refine ks_iload_n (n := 172) S dX2_happens_171 rfl rfl ?_
    refine ks_iconst (n := 173) S dX2_happens_172 rfl (by unfold iv; decide) ?_
    refine ks_iadd (n := 174) S dX2_happens_173 rfl (by omega) ?_
    refine kf_v1i (n := 177) S dX2_happens_174 rfl ml_X2_60 ym_X2_twoDigits (ev_X2_twoDigits h (by omega)) (by decide) rfl (Nat.le_of_ble_eq_true rfl) ?_
    refine ks_aload_n (n := 178) S dX2_happens_177 rfl rfl ?_
    refine ks_iload_n (n := 179) S dX2_happens_178 rfl rfl ?_
    refine ks_iconst (n := 180) S dX2_happens_179 rfl (by unfold iv; decide) ?_
    refine ks_iadd (n := 181) S dX2_happens_180 rfl (by omega) ?_
    refine kf_v1i (n := 184) S dX2_happens_181 rfl ml_X2_27 ym_X2_digit (ev_X2_digit h) (by decide) rfl (Nat.le_of_ble_eq_true rfl) ?_
    refine ks_s4z (n := 187) S dX2_happens_184 rfl ml_X2_63 ym_X2_isFilled (ev_X2_isFilled hH hR ok (by omega)) (by decide) (Nat.le_of_ble_eq_true rfl) (fun r184 τ184 q184 => ?_)
    obtain ⟨y1, y2, y3⟩ := q184
    have y1 := kq_si y1
    subst y1
    refine ks_zret S dX2_happens_187 (by first | exact Or.inl rfl | exact Or.inr rfl | exact bi_01) ?_
    have x0 : m_x0 w n b = m_dg w n (b + 1) := by unfold m_x0; rw [if_neg (show ¬ m_at w n b = 100 by omega), if_neg (show ¬ m_at w n b = 104 by omega)]
    have x1 : m_x1 w n b = 10 * m_dg w n (b + 2) + m_dg w n (b + 2 + 1) := by unfold m_x1; rw [if_pos (show m_at w n b = 113 by omega), d21]
    have x2 : m_x2 w n b = m_dg w n (b + 4) := by unfold m_x2; rw [if_pos (show m_at w n b = 113 by omega)]
    refine hap_to ?_ ?_ ⟨rfl, y2, y3⟩
    · unfold m_hqa m_hq
      rw [x0, x1, x2]
      constructor <;> intro hyp <;> omega
    · unfold m_hwa m_hw
      rw [x0, x1, x2, if_neg (show ¬ m_at w n b = 100 by omega), if_neg (show ¬ m_at w n b = 112 by omega), if_neg (show ¬ m_at w n b = 111 by omega), if_pos (show m_at w n b = 113 by omega)]
end TELL7

