section READ3
variable {l : Launch} {σ M : KS} {w a : RW} {n b : Int}
theorem ev_X5_addsDoor {k f o p : Int} (ok : OkR (σ 39)) : Ev l yX5_addsDoor cX5_addsDoor 6 (some .boolean) 2 42 [kr 38, ki k, ki f, ki o, ki p] σ (fun r τ => r = some (ki (bi (σ 39 0 < 9 ∧ (0 ≤ o ∧ o < 7) ∧ (0 ≤ p ∧ p < 7) ∧ o ≠ p))) ∧ τ = if σ 39 0 < 9 ∧ (0 ≤ o ∧ o < 7) ∧ (0 ≤ p ∧ p < 7) ∧ o ≠ p then sr σ 39 (m_addD (σ 39) k f o p) else σ) := by
  have n9 := ok.1
  refine ev_intro ym_X5_addsDoor.1 (Nat.le_of_ble_eq_true rfl) (fun hv hσ K S => ?_)
  have hv := hv
  show K 0 [some (kr 38), some (ki k), some (ki f), some (ki o), some (ki p), none] [] σ
  refine ks_iload_n (n := 1) S dX5_addsDoor_0 rfl rfl ?_
  refine kf_s1z (n := 4) S dX5_addsDoor_1 rfl ml_X5_109 ym_X5_isRoom (ev_X5_isRoom) (by decide) (Nat.le_of_ble_eq_true rfl) ?_
  refine ks_if_eq (n := 7) (tgt := 32) S dX5_addsDoor_4 rfl rfl (fun h4 => ?_) (fun h4 => ?_)
  · skip
    simp only [bi_eq, bi_ne, Classical.not_not] at h4
    refine ks_iconst (n := 33) S dX5_addsDoor_32 rfl (by unfold iv; decide) ?_
    refine ks_zret S dX5_addsDoor_33 (by first | exact Or.inl rfl | exact Or.inr rfl | exact bi_01) ?_
    refine ⟨by rw [bi_f (by omega)], ?_⟩
    rw [if_neg (by omega)]
  · skip
    simp only [bi_eq, bi_ne, Classical.not_not] at h4
    refine ks_iload (n := 9) S dX5_addsDoor_7 rfl rfl ?_
    refine kf_s1z (n := 12) S dX5_addsDoor_9 rfl ml_X5_109 ym_X5_isRoom (ev_X5_isRoom) (by decide) (Nat.le_of_ble_eq_true rfl) ?_
    refine ks_if_eq (n := 15) (tgt := 32) S dX5_addsDoor_12 rfl rfl (fun h12 => ?_) (fun h12 => ?_)
    · skip
      simp only [bi_eq, bi_ne, Classical.not_not] at h12
      refine ks_iconst (n := 33) S dX5_addsDoor_32 rfl (by unfold iv; decide) ?_
      refine ks_zret S dX5_addsDoor_33 (by first | exact Or.inl rfl | exact Or.inr rfl | exact bi_01) ?_
      refine ⟨by rw [bi_f (by omega)], ?_⟩
      rw [if_neg (by omega)]
    · skip
      simp only [bi_eq, bi_ne, Classical.not_not] at h12
      refine ks_iload_n (n := 16) S dX5_addsDoor_15 rfl rfl ?_
      refine ks_iload (n := 18) S dX5_addsDoor_16 rfl rfl ?_
      refine ks_icmp_eq (n := 21) (tgt := 32) S dX5_addsDoor_18 rfl rfl (fun h18 => ?_) (fun h18 => ?_)
      · skip
        refine ks_iconst (n := 33) S dX5_addsDoor_32 rfl (by unfold iv; decide) ?_
        refine ks_zret S dX5_addsDoor_33 (by first | exact Or.inl rfl | exact Or.inr rfl | exact bi_01) ?_
        refine ⟨by rw [bi_f (by omega)], ?_⟩
        rw [if_neg (by omega)]
      · skip
        refine ks_aload_n (n := 22) S dX5_addsDoor_21 rfl rfl ?_
        refine ks_getr (n := 25) S dX5_addsDoor_22 rfl fl_X5_9 rfl rfl ?_
        refine ks_iconst (n := 26) S dX5_addsDoor_25 rfl (by unfold iv; decide) ?_
        refine ks_iaload (n := 27) S dX5_addsDoor_26 rfl rfl (by omega) ?_
        refine ks_bipush (n := 29) S dX5_addsDoor_27 rfl (by unfold iv; decide) ?_
        refine ks_icmp_ne (n := 32) (tgt := 34) S dX5_addsDoor_29 rfl rfl (fun h29 => ?_) (fun h29 => ?_)
        · skip
          refine ks_aload_n (n := 35) S dX5_addsDoor_34 rfl rfl ?_
          refine ks_getr (n := 38) S dX5_addsDoor_35 rfl fl_X5_9 rfl rfl ?_
          refine ks_iconst (n := 39) S dX5_addsDoor_38 rfl (by unfold iv; decide) ?_
          refine ks_iaload (n := 40) S dX5_addsDoor_39 rfl rfl (by omega) ?_
          refine ks_istore (n := 42) S dX5_addsDoor_40 rfl (L' := fun yy => [some (kr 38), some (ki k), some (ki f), some (ki o), some (ki p), some (ki yy)]) (Nat.le_of_ble_eq_true rfl) (fun _ => rfl) (fun d hv40 => ?_)
          refine ks_aload_n (n := 43) S dX5_addsDoor_42 rfl rfl ?_
          refine ks_getr (n := 46) S dX5_addsDoor_43 rfl fl_X5_9 rfl rfl ?_
          refine ks_iload (n := 48) S dX5_addsDoor_46 rfl rfl ?_
          refine ks_iconst (n := 49) S dX5_addsDoor_48 rfl (by unfold iv; decide) ?_
          refine kf_s2i (n := 52) S dX5_addsDoor_49 rfl ml_X5_48 ym_X5_ofD (ev_X5_ofD (by omega) (by omega)) (by decide) (Nat.le_of_ble_eq_true rfl) ?_
          refine ks_iload_n (n := 53) S dX5_addsDoor_52 rfl rfl ?_
          refine ks_iastore (n := 54) S dX5_addsDoor_53 rfl rfl (by omega) ?_
          refine ks_aload_n (n := 55) S dX5_addsDoor_54 rfl rfl ?_
          refine ks_getr (n := 58) S dX5_addsDoor_55 rfl fl_X5_9 rfl rfl ?_
          refine ks_iload (n := 60) S dX5_addsDoor_58 rfl rfl ?_
          refine ks_iconst (n := 61) S dX5_addsDoor_60 rfl (by unfold iv; decide) ?_
          refine kf_s2i (n := 64) S dX5_addsDoor_61 rfl ml_X5_48 ym_X5_ofD (ev_X5_ofD (by omega) (by omega)) (by decide) (Nat.le_of_ble_eq_true rfl) ?_
          refine ks_iload_n (n := 65) S dX5_addsDoor_64 rfl rfl ?_
          refine ks_iastore (n := 66) S dX5_addsDoor_65 rfl rfl (by omega) ?_
          refine ks_aload_n (n := 67) S dX5_addsDoor_66 rfl rfl ?_
          refine ks_getr (n := 70) S dX5_addsDoor_67 rfl fl_X5_9 rfl rfl ?_
          refine ks_iload (n := 72) S dX5_addsDoor_70 rfl rfl ?_
          refine ks_iconst (n := 73) S dX5_addsDoor_72 rfl (by unfold iv; decide) ?_
          refine kf_s2i (n := 76) S dX5_addsDoor_73 rfl ml_X5_48 ym_X5_ofD (ev_X5_ofD (by omega) (by omega)) (by decide) (Nat.le_of_ble_eq_true rfl) ?_
          refine ks_iload_n (n := 77) S dX5_addsDoor_76 rfl rfl ?_
          refine ks_iastore (n := 78) S dX5_addsDoor_77 rfl rfl (by omega) ?_
          refine ks_aload_n (n := 79) S dX5_addsDoor_78 rfl rfl ?_
          refine ks_getr (n := 82) S dX5_addsDoor_79 rfl fl_X5_9 rfl rfl ?_
          refine ks_iload (n := 84) S dX5_addsDoor_82 rfl rfl ?_
          refine ks_iconst (n := 85) S dX5_addsDoor_84 rfl (by unfold iv; decide) ?_
          refine kf_s2i (n := 88) S dX5_addsDoor_85 rfl ml_X5_48 ym_X5_ofD (ev_X5_ofD (by omega) (by omega)) (by decide) (Nat.le_of_ble_eq_true rfl) ?_
          refine ks_iload (n := 90) S dX5_addsDoor_88 rfl rfl ?_
          refine ks_iastore (n := 91) S dX5_addsDoor_90 rfl rfl (by omega) ?_
          refine ks_aload_n (n := 92) S dX5_addsDoor_91 rfl rfl ?_
          refine ks_getr (n := 95) S dX5_addsDoor_92 rfl fl_X5_9 rfl rfl ?_
          refine ks_iload (n := 97) S dX5_addsDoor_95 rfl rfl ?_
          refine ks_iconst (n := 98) S dX5_addsDoor_97 rfl (by unfold iv; decide) ?_
          refine kf_s2i (n := 101) S dX5_addsDoor_98 rfl ml_X5_48 ym_X5_ofD (ev_X5_ofD (by omega) (by omega)) (by decide) (Nat.le_of_ble_eq_true rfl) ?_
          refine ks_iconst (n := 102) S dX5_addsDoor_101 rfl (by unfold iv; decide) ?_
          refine ks_iastore (n := 103) S dX5_addsDoor_102 rfl rfl (by omega) ?_
          refine ks_aload_n (n := 104) S dX5_addsDoor_103 rfl rfl ?_
          refine ks_getr (n := 107) S dX5_addsDoor_104 rfl fl_X5_9 rfl rfl ?_
          refine ks_iload (n := 109) S dX5_addsDoor_107 rfl rfl ?_
          refine ks_iconst (n := 110) S dX5_addsDoor_109 rfl (by unfold iv; decide) ?_
          refine kf_s2i (n := 113) S dX5_addsDoor_110 rfl ml_X5_48 ym_X5_ofD (ev_X5_ofD (by omega) (by omega)) (by decide) (Nat.le_of_ble_eq_true rfl) ?_
          refine ks_bipush (n := 115) S dX5_addsDoor_113 rfl (by unfold iv; decide) ?_
          refine ks_iastore (n := 116) S dX5_addsDoor_115 rfl rfl (by omega) ?_
          refine ks_aload_n (n := 117) S dX5_addsDoor_116 rfl rfl ?_
          refine ks_getr (n := 120) S dX5_addsDoor_117 rfl fl_X5_9 rfl rfl ?_
          refine ks_iconst (n := 121) S dX5_addsDoor_120 rfl (by unfold iv; decide) ?_
          refine ks_dup2 (n := 122) S dX5_addsDoor_121 rfl rfl rfl ?_
          refine ks_iaload (n := 123) S dX5_addsDoor_122 rfl rfl (by omega) ?_
          rw [kq_up_i (show (0 : Int) ≠ 3 + 6 * d + 5 by omega), kq_up_i (show (0 : Int) ≠ 3 + 6 * d + 4 by omega), kq_up_i (show (0 : Int) ≠ 3 + 6 * d + 3 by omega), kq_up_i (show (0 : Int) ≠ 3 + 6 * d + 2 by omega), kq_up_i (show (0 : Int) ≠ 3 + 6 * d + 1 by omega), kq_up_i (show (0 : Int) ≠ 3 + 6 * d + 0 by omega)]
          refine ks_iconst (n := 124) S dX5_addsDoor_123 rfl (by unfold iv; decide) ?_
          refine ks_iadd (n := 125) S dX5_addsDoor_124 rfl (by omega) ?_
          refine ks_iastore (n := 126) S dX5_addsDoor_125 rfl rfl (by omega) ?_
          refine ks_iconst (n := 127) S dX5_addsDoor_126 rfl (by unfold iv; decide) ?_
          refine ks_zret S dX5_addsDoor_127 (by first | exact Or.inl rfl | exact Or.inr rfl | exact bi_01) ?_
          refine ⟨by rw [bi_t (by omega)], ?_⟩
          rw [if_pos (show σ 39 0 < 9 ∧ (0 ≤ o ∧ o < 7) ∧ (0 ≤ p ∧ p < 7) ∧ o ≠ p by omega)]
          simp only [kq_up_sr, sr_sr, sr_r, m_addD, hv40]
        · skip
          refine ks_iconst (n := 33) S dX5_addsDoor_32 rfl (by unfold iv; decide) ?_
          refine ks_zret S dX5_addsDoor_33 (by first | exact Or.inl rfl | exact Or.inr rfl | exact bi_01) ?_
          refine ⟨by rw [bi_f (by omega)], ?_⟩
          rw [if_neg (by omega)]
theorem sr_up {i v : Int} {r : RW} {c : Nat} : kq_up (sr σ c r) c i v = sr σ c (ru r i v) := by rw [kq_up_sr, sr_sr, sr_r]
theorem hq_d {c x0 x1 x2 x3 : Int} (h : c = 100) : m_hq a c x0 x1 x2 x3 ↔ (a 0 < 9 ∧ (0 ≤ x2 ∧ x2 < 7) ∧ (0 ≤ x3 ∧ x3 < 7) ∧ x2 ≠ x3) := by
  subst h
  constructor
  · rintro (⟨y, z⟩ | ⟨y, z⟩ | ⟨y, z⟩ | ⟨y, z⟩ | ⟨y, z⟩ | ⟨y, z⟩) <;> first | exact absurd y (by decide) | exact z
  · intro z
    exact Or.inl ⟨rfl, z⟩
theorem hq_p {c x0 x1 x2 x3 : Int} (h : c = 112) : m_hq a c x0 x1 x2 x3 ↔ (a 1 < 6 ∧ 0 ≤ x1 ∧ x1 < 7) := by
  subst h
  constructor
  · rintro (⟨y, z⟩ | ⟨y, z⟩ | ⟨y, z⟩ | ⟨y, z⟩ | ⟨y, z⟩ | ⟨y, z⟩) <;> first | exact absurd y (by decide) | exact z
  · intro z
    exact Or.inr (Or.inl ⟨rfl, z⟩)
theorem hq_o {c x0 x1 x2 x3 : Int} (h : c = 111) : m_hq a c x0 x1 x2 x3 ↔ ((0 ≤ x0 ∧ x0 < a 1) ∧ (0 ≤ x1 ∧ x1 < a 0) ∧ m_of a x1 (aP a x0 1)) := by
  subst h
  constructor
  · rintro (⟨y, z⟩ | ⟨y, z⟩ | ⟨y, z⟩ | ⟨y, z⟩ | ⟨y, z⟩ | ⟨y, z⟩) <;> first | exact absurd y (by decide) | exact z
  · intro z
    exact Or.inr (Or.inr (Or.inl ⟨rfl, z⟩))
theorem hq_q {c x0 x1 x2 x3 : Int} (h : c = 113) : m_hq a c x0 x1 x2 x3 ↔ ((0 ≤ x0 ∧ x0 < a 0) ∧ (0 ≤ x2 ∧ x2 < a 1)) := by
  subst h
  constructor
  · rintro (⟨y, z⟩ | ⟨y, z⟩ | ⟨y, z⟩ | ⟨y, z⟩ | ⟨y, z⟩ | ⟨y, z⟩) <;> first | exact absurd y (by decide) | exact z
  · intro z
    exact Or.inr (Or.inr (Or.inr (Or.inl ⟨rfl, z⟩)))
theorem hq_a {c x0 x1 x2 x3 : Int} (h : c = 97) : m_hq a c x0 x1 x2 x3 ↔ (0 ≤ x0 ∧ x0 < a 0) := by
  subst h
  constructor
  · rintro (⟨y, z⟩ | ⟨y, z⟩ | ⟨y, z⟩ | ⟨y, z⟩ | ⟨y, z⟩ | ⟨y, z⟩) <;> first | exact absurd y (by decide) | exact z
  · intro z
    exact Or.inr (Or.inr (Or.inr (Or.inr (Or.inl ⟨rfl, z⟩))))
theorem hq_h {c x0 x1 x2 x3 : Int} (h : c = 104) : m_hq a c x0 x1 x2 x3 ↔ (1 ≤ x0 ∧ x0 ≤ 60 ∧ a 2 + x0 ≤ 999) := by
  subst h
  constructor
  · rintro (⟨y, z⟩ | ⟨y, z⟩ | ⟨y, z⟩ | ⟨y, z⟩ | ⟨y, z⟩ | ⟨y, z⟩) <;> first | exact absurd y (by decide) | exact z
  · intro z
    exact Or.inr (Or.inr (Or.inr (Or.inr (Or.inr (⟨rfl, z⟩)))))
theorem ev_X5_isDone {c : Int} (ok : OkR (σ 39)) (h2 : σ 39 2 ≤ 999) (hx : 0 ≤ σ 46 0 ∧ σ 46 0 ≤ 99) (hc : c = 100 ∨ c = 112 ∨ c = 111 ∨ c = 113 ∨ c = 97 ∨ c = 104) : Ev l yX5_isDone cX5_isDone 4 (some .boolean) 4 86 [kr 38, ki c] σ (fun r τ => r = some (ki (bi (m_hq (σ 39) c (σ 46 0) (σ 46 1) (σ 46 2) (σ 46 3)))) ∧ τ = if m_hq (σ 39) c (σ 46 0) (σ 46 1) (σ 46 2) (σ 46 3) then sr σ 39 (m_hw (σ 39) c (σ 46 0) (σ 46 1) (σ 46 2) (σ 46 3)) else σ) := by
  have n9 := ok.1
  have n6 := ok.2.1
  have n2 := ok.2.2.1
  have sayNo : ¬ m_hq (σ 39) c (σ 46 0) (σ 46 1) (σ 46 2) (σ 46 3) → ((some (ki 0) : Option KV) = some (ki (bi (m_hq (σ 39) c (σ 46 0) (σ 46 1) (σ 46 2) (σ 46 3)))) ∧ σ = if m_hq (σ 39) c (σ 46 0) (σ 46 1) (σ 46 2) (σ 46 3) then sr σ 39 (m_hw (σ 39) c (σ 46 0) (σ 46 1) (σ 46 2) (σ 46 3)) else σ) := fun y => ⟨by rw [bi_f y], by rw [if_neg y]⟩
  have sayYes : ∀ z, m_hq (σ 39) c (σ 46 0) (σ 46 1) (σ 46 2) (σ 46 3) → z = sr σ 39 (m_hw (σ 39) c (σ 46 0) (σ 46 1) (σ 46 2) (σ 46 3)) → ((some (ki 1) : Option KV) = some (ki (bi (m_hq (σ 39) c (σ 46 0) (σ 46 1) (σ 46 2) (σ 46 3)))) ∧ z = if m_hq (σ 39) c (σ 46 0) (σ 46 1) (σ 46 2) (σ 46 3) then sr σ 39 (m_hw (σ 39) c (σ 46 0) (σ 46 1) (σ 46 2) (σ 46 3)) else σ) := fun z y hz => ⟨by rw [bi_t y], by rw [if_pos y]; exact hz⟩
  have eP : aP (σ 39) (σ 46 0) 1 = σ 39 (57 + 3 * σ 46 0 + 1) := rfl
  refine ev_intro ym_X5_isDone.1 (Nat.le_of_ble_eq_true rfl) (fun hv hσ K S => ?_)
  have hv := hv
  show K 0 [some (kr 38), some (ki c), none, none] [] σ
  refine ks_aload_n (n := 1) S dX5_isDone_0 rfl rfl ?_
  refine ks_getr (n := 4) S dX5_isDone_1 rfl fl_X5_31 rfl rfl ?_
  refine ks_iconst (n := 5) S dX5_isDone_4 rfl (by unfold iv; decide) ?_
  refine ks_iaload (n := 6) S dX5_isDone_5 rfl rfl (by omega) ?_
  refine ks_istore_n (n := 7) S dX5_isDone_6 rfl rfl (L' := fun yy => [some (kr 38), some (ki c), some (ki yy), none]) (Nat.le_of_ble_eq_true rfl) (fun _ => rfl) (fun v2_6 hv6 => ?_)
  subst v2_6
  refine ks_aload_n (n := 8) S dX5_isDone_7 rfl rfl ?_
  refine ks_getr (n := 11) S dX5_isDone_8 rfl fl_X5_31 rfl rfl ?_
  refine ks_iconst (n := 12) S dX5_isDone_11 rfl (by unfold iv; decide) ?_
  refine ks_iaload (n := 13) S dX5_isDone_12 rfl rfl (by omega) ?_
  refine ks_istore_n (n := 14) S dX5_isDone_13 rfl rfl (L' := fun yy => [some (kr 38), some (ki c), some (ki _), some (ki yy)]) (Nat.le_of_ble_eq_true rfl) (fun _ => rfl) (fun v3_13 hv13 => ?_)
  subst v3_13
  refine ks_iload_n (n := 15) S dX5_isDone_14 rfl rfl ?_
  refine ks_lookup S (tdf := 276) [(97, 253), (100, 64), (111, 163), (112, 83), (113, 213)] dX5_isDone_15 (by decide) (by decide) rfl (And.intro (fun h15 => ?_) (fun h15_0 => (And.intro (fun h15 => ?_) (fun h15_1 => (And.intro (fun h15 => ?_) (fun h15_2 => (And.intro (fun h15 => ?_) (fun h15_3 => (And.intro (fun h15 => ?_) (fun h15_4 => ?_))))))))))
  · skip
    refine ks_aload_n (n := 254) S dX5_isDone_253 rfl rfl ?_
    refine ks_iload_n (n := 255) S dX5_isDone_254 rfl rfl ?_
    refine kf_v1z (n := 258) S dX5_isDone_255 rfl ml_X5_120 ym_X5_isDoor (ev_X5_isDoor n9) (by decide) rfl (Nat.le_of_ble_eq_true rfl) ?_
    refine ks_if_ne (n := 261) (tgt := 263) S dX5_isDone_258 rfl rfl (fun h258 => ?_) (fun h258 => ?_)
    · skip
      simp only [bi_eq, bi_ne, Classical.not_not] at h258
      refine ks_aload_n (n := 264) S dX5_isDone_263 rfl rfl ?_
      refine ks_getr (n := 267) S dX5_isDone_264 rfl fl_X5_9 rfl rfl ?_
      refine ks_iload_n (n := 268) S dX5_isDone_267 rfl rfl ?_
      refine ks_iconst (n := 269) S dX5_isDone_268 rfl (by unfold iv; decide) ?_
      refine ks_bipush (n := 271) S dX5_isDone_269 rfl (by unfold iv; decide) ?_
      refine kf_s4v (n := 274) S dX5_isDone_271 rfl ml_X5_69 ym_X5_heats (ev_X5_heats rfl (by omega)) (by decide) (Nat.le_of_ble_eq_true rfl) ?_
      refine ks_iconst (n := 275) S dX5_isDone_274 rfl (by unfold iv; decide) ?_
      refine ks_zret S dX5_isDone_275 (by first | exact Or.inl rfl | exact Or.inr rfl | exact bi_01) ?_
      refine sayYes _ ((hq_a h15).2 (by omega)) ?_
      unfold m_hw
      rw [if_neg (by omega), if_neg (by omega), if_neg (by omega), if_neg (by omega), if_pos h15]
    · skip
      simp only [bi_eq, bi_ne, Classical.not_not] at h258
      refine ks_iconst (n := 262) S dX5_isDone_261 rfl (by unfold iv; decide) ?_
      refine ks_zret S dX5_isDone_262 (by first | exact Or.inl rfl | exact Or.inr rfl | exact bi_01) ?_
      exact sayNo (fun y => by have z := (hq_a h15).1 y; clear y; omega)
  · skip
    refine ks_aload_n (n := 65) S dX5_isDone_64 rfl rfl ?_
    refine ks_iload_n (n := 66) S dX5_isDone_65 rfl rfl ?_
    refine ks_iload_n (n := 67) S dX5_isDone_66 rfl rfl ?_
    refine ks_aload_n (n := 68) S dX5_isDone_67 rfl rfl ?_
    refine ks_getr (n := 71) S dX5_isDone_68 rfl fl_X5_31 rfl rfl ?_
    refine ks_iconst (n := 72) S dX5_isDone_71 rfl (by unfold iv; decide) ?_
    refine ks_iaload (n := 73) S dX5_isDone_72 rfl rfl (by omega) ?_
    refine ks_aload_n (n := 74) S dX5_isDone_73 rfl rfl ?_
    refine ks_getr (n := 77) S dX5_isDone_74 rfl fl_X5_31 rfl rfl ?_
    refine ks_iconst (n := 78) S dX5_isDone_77 rfl (by unfold iv; decide) ?_
    refine ks_iaload (n := 79) S dX5_isDone_78 rfl rfl (by omega) ?_
    refine ks_v4z (n := 82) S dX5_isDone_79 rfl ml_X5_113 ym_X5_addsDoor (ev_X5_addsDoor ok) (by decide) rfl (Nat.le_of_ble_eq_true rfl) (fun r79 τ79 q79 => ?_)
    obtain ⟨y1, y2⟩ := q79
    have y1 := kq_si y1
    subst y1
    refine ks_zret S dX5_isDone_82 (by first | exact Or.inl rfl | exact Or.inr rfl | exact bi_01) ?_
    by_cases hq : σ 39 0 < 9 ∧ (0 ≤ σ 46 2 ∧ σ 46 2 < 7) ∧ (0 ≤ σ 46 3 ∧ σ 46 3 < 7) ∧ σ 46 2 ≠ σ 46 3
    · rw [if_pos hq] at y2
      rw [bi_t hq, y2]
      refine sayYes _ ((hq_d h15).2 hq) ?_
      unfold m_hw
      rw [if_pos h15]
    · rw [if_neg hq] at y2
      rw [bi_f hq, y2]
      exact sayNo (fun y => hq ((hq_d h15).1 y))
  · skip
    refine ks_aload_n (n := 164) S dX5_isDone_163 rfl rfl ?_
    refine ks_iload_n (n := 165) S dX5_isDone_164 rfl rfl ?_
    refine kf_v1z (n := 168) S dX5_isDone_165 rfl ml_X5_117 ym_X5_isPerson (ev_X5_isPerson n6) (by decide) rfl (Nat.le_of_ble_eq_true rfl) ?_
    refine ks_if_eq (n := 171) (tgt := 200) S dX5_isDone_168 rfl rfl (fun h168 => ?_) (fun h168 => ?_)
    · skip
      simp only [bi_eq, bi_ne, Classical.not_not] at h168
      refine ks_iconst (n := 201) S dX5_isDone_200 rfl (by unfold iv; decide) ?_
      refine ks_zret S dX5_isDone_201 (by first | exact Or.inl rfl | exact Or.inr rfl | exact bi_01) ?_
      exact sayNo (fun y => by have z := (hq_o h15).1 y; clear y; omega)
    · skip
      simp only [bi_eq, bi_ne, Classical.not_not] at h168
      refine ks_aload_n (n := 172) S dX5_isDone_171 rfl rfl ?_
      refine ks_iload_n (n := 173) S dX5_isDone_172 rfl rfl ?_
      refine kf_v1z (n := 176) S dX5_isDone_173 rfl ml_X5_120 ym_X5_isDoor (ev_X5_isDoor n9) (by decide) rfl (Nat.le_of_ble_eq_true rfl) ?_
      refine ks_if_eq (n := 179) (tgt := 200) S dX5_isDone_176 rfl rfl (fun h176 => ?_) (fun h176 => ?_)
      · skip
        simp only [bi_eq, bi_ne, Classical.not_not] at h176
        refine ks_iconst (n := 201) S dX5_isDone_200 rfl (by unfold iv; decide) ?_
        refine ks_zret S dX5_isDone_201 (by first | exact Or.inl rfl | exact Or.inr rfl | exact bi_01) ?_
        exact sayNo (fun y => by have z := (hq_o h15).1 y; clear y; omega)
      · skip
        simp only [bi_eq, bi_ne, Classical.not_not] at h176
        refine ks_aload_n (n := 180) S dX5_isDone_179 rfl rfl ?_
        refine ks_getr (n := 183) S dX5_isDone_180 rfl fl_X5_9 rfl rfl ?_
        refine ks_iload_n (n := 184) S dX5_isDone_183 rfl rfl ?_
        refine ks_aload_n (n := 185) S dX5_isDone_184 rfl rfl ?_
        refine ks_getr (n := 188) S dX5_isDone_185 rfl fl_X5_9 rfl rfl ?_
        refine ks_iload_n (n := 189) S dX5_isDone_188 rfl rfl ?_
        refine ks_iconst (n := 190) S dX5_isDone_189 rfl (by unfold iv; decide) ?_
        refine kf_s2i (n := 193) S dX5_isDone_190 rfl ml_X5_55 ym_X5_ofP (ev_X5_ofP (by omega) (by omega)) (by decide) (Nat.le_of_ble_eq_true rfl) ?_
        refine ks_iaload (n := 194) S dX5_isDone_193 rfl rfl (by omega) ?_
        refine kf_s3z (n := 197) S dX5_isDone_194 rfl ml_X5_123 ym_X5_isOf (ev_X5_isOf rfl (by omega)) (by decide) (Nat.le_of_ble_eq_true rfl) ?_
        refine ks_if_ne (n := 200) (tgt := 202) S dX5_isDone_197 rfl rfl (fun h197 => ?_) (fun h197 => ?_)
        · skip
          simp only [bi_eq, bi_ne, Classical.not_not] at h197
          refine ks_aload_n (n := 203) S dX5_isDone_202 rfl rfl ?_
          refine ks_getr (n := 206) S dX5_isDone_203 rfl fl_X5_9 rfl rfl ?_
          refine ks_iload_n (n := 207) S dX5_isDone_206 rfl rfl ?_
          refine ks_iload_n (n := 208) S dX5_isDone_207 rfl rfl ?_
          refine kf_s3v (n := 211) S dX5_isDone_208 rfl ml_X5_127 ym_X5_opensIn (ev_X5_opensIn rfl ok (by omega) (by omega)) (by decide) (Nat.le_of_ble_eq_true rfl) ?_
          refine ks_iconst (n := 212) S dX5_isDone_211 rfl (by unfold iv; decide) ?_
          refine ks_zret S dX5_isDone_212 (by first | exact Or.inl rfl | exact Or.inr rfl | exact bi_01) ?_
          refine sayYes _ ((hq_o h15).2 ⟨by omega, by omega, h197⟩) ?_
          unfold m_hw
          rw [if_neg (by omega), if_neg (by omega), if_pos h15]
        · skip
          simp only [bi_eq, bi_ne, Classical.not_not] at h197
          refine ks_iconst (n := 201) S dX5_isDone_200 rfl (by unfold iv; decide) ?_
          refine ks_zret S dX5_isDone_201 (by first | exact Or.inl rfl | exact Or.inr rfl | exact bi_01) ?_
          exact sayNo (fun y => by have z := (hq_o h15).1 y; clear y; omega)
  · skip
    refine ks_iload_n (n := 84) S dX5_isDone_83 rfl rfl ?_
    refine kf_s1z (n := 87) S dX5_isDone_84 rfl ml_X5_109 ym_X5_isRoom (ev_X5_isRoom) (by decide) (Nat.le_of_ble_eq_true rfl) ?_
    refine ks_if_eq (n := 90) (tgt := 101) S dX5_isDone_87 rfl rfl (fun h87 => ?_) (fun h87 => ?_)
    · skip
      simp only [bi_eq, bi_ne, Classical.not_not] at h87
      refine ks_iconst (n := 102) S dX5_isDone_101 rfl (by unfold iv; decide) ?_
      refine ks_zret S dX5_isDone_102 (by first | exact Or.inl rfl | exact Or.inr rfl | exact bi_01) ?_
      exact sayNo (fun y => by have z := (hq_p h15).1 y; clear y; omega)
    · skip
      simp only [bi_eq, bi_ne, Classical.not_not] at h87
      refine ks_aload_n (n := 91) S dX5_isDone_90 rfl rfl ?_
      refine ks_getr (n := 94) S dX5_isDone_91 rfl fl_X5_9 rfl rfl ?_
      refine ks_iconst (n := 95) S dX5_isDone_94 rfl (by unfold iv; decide) ?_
      refine ks_iaload (n := 96) S dX5_isDone_95 rfl rfl (by omega) ?_
      refine ks_bipush (n := 98) S dX5_isDone_96 rfl (by unfold iv; decide) ?_
      refine ks_icmp_ne (n := 101) (tgt := 103) S dX5_isDone_98 rfl rfl (fun h98 => ?_) (fun h98 => ?_)
      · skip
        refine ks_aload_n (n := 104) S dX5_isDone_103 rfl rfl ?_
        refine ks_getr (n := 107) S dX5_isDone_104 rfl fl_X5_9 rfl rfl ?_
        refine ks_aload_n (n := 108) S dX5_isDone_107 rfl rfl ?_
        refine ks_getr (n := 111) S dX5_isDone_108 rfl fl_X5_9 rfl rfl ?_
        refine ks_iconst (n := 112) S dX5_isDone_111 rfl (by unfold iv; decide) ?_
        refine ks_iaload (n := 113) S dX5_isDone_112 rfl rfl (by omega) ?_
        refine ks_iconst (n := 114) S dX5_isDone_113 rfl (by unfold iv; decide) ?_
        refine kf_s2i (n := 117) S dX5_isDone_114 rfl ml_X5_55 ym_X5_ofP (ev_X5_ofP (by omega) (by omega)) (by decide) (Nat.le_of_ble_eq_true rfl) ?_
        refine ks_iload_n (n := 118) S dX5_isDone_117 rfl rfl ?_
        refine ks_iastore (n := 119) S dX5_isDone_118 rfl rfl (by omega) ?_
        refine ks_aload_n (n := 120) S dX5_isDone_119 rfl rfl ?_
        refine ks_getr (n := 123) S dX5_isDone_120 rfl fl_X5_9 rfl rfl ?_
        refine ks_aload_n (n := 124) S dX5_isDone_123 rfl rfl ?_
        refine ks_getr (n := 127) S dX5_isDone_124 rfl fl_X5_9 rfl rfl ?_
        refine ks_iconst (n := 128) S dX5_isDone_127 rfl (by unfold iv; decide) ?_
        refine ks_iaload (n := 129) S dX5_isDone_128 rfl rfl (by omega) ?_
        rw [kq_up_i (show (1 : Int) ≠ 57 + 3 * σ 39 1 + 0 by omega)]
        refine ks_iconst (n := 130) S dX5_isDone_129 rfl (by unfold iv; decide) ?_
        refine kf_s2i (n := 133) S dX5_isDone_130 rfl ml_X5_55 ym_X5_ofP (ev_X5_ofP (by omega) (by omega)) (by decide) (Nat.le_of_ble_eq_true rfl) ?_
        refine ks_iload_n (n := 134) S dX5_isDone_133 rfl rfl ?_
        refine ks_iastore (n := 135) S dX5_isDone_134 rfl rfl (by omega) ?_
        refine ks_aload_n (n := 136) S dX5_isDone_135 rfl rfl ?_
        refine ks_getr (n := 139) S dX5_isDone_136 rfl fl_X5_9 rfl rfl ?_
        refine ks_aload_n (n := 140) S dX5_isDone_139 rfl rfl ?_
        refine ks_getr (n := 143) S dX5_isDone_140 rfl fl_X5_9 rfl rfl ?_
        refine ks_iconst (n := 144) S dX5_isDone_143 rfl (by unfold iv; decide) ?_
        refine ks_iaload (n := 145) S dX5_isDone_144 rfl rfl (by omega) ?_
        rw [kq_up_i (show (1 : Int) ≠ 57 + 3 * σ 39 1 + 1 by omega), kq_up_i (show (1 : Int) ≠ 57 + 3 * σ 39 1 + 0 by omega)]
        refine ks_iconst (n := 146) S dX5_isDone_145 rfl (by unfold iv; decide) ?_
        refine kf_s2i (n := 149) S dX5_isDone_146 rfl ml_X5_55 ym_X5_ofP (ev_X5_ofP (by omega) (by omega)) (by decide) (Nat.le_of_ble_eq_true rfl) ?_
        refine ks_iconst (n := 150) S dX5_isDone_149 rfl (by unfold iv; decide) ?_
        refine ks_iastore (n := 151) S dX5_isDone_150 rfl rfl (by omega) ?_
        refine ks_aload_n (n := 152) S dX5_isDone_151 rfl rfl ?_
        refine ks_getr (n := 155) S dX5_isDone_152 rfl fl_X5_9 rfl rfl ?_
        refine ks_iconst (n := 156) S dX5_isDone_155 rfl (by unfold iv; decide) ?_
        refine ks_dup2 (n := 157) S dX5_isDone_156 rfl rfl rfl ?_
        refine ks_iaload (n := 158) S dX5_isDone_157 rfl rfl (by omega) ?_
        rw [kq_up_i (show (1 : Int) ≠ 57 + 3 * σ 39 1 + 2 by omega), kq_up_i (show (1 : Int) ≠ 57 + 3 * σ 39 1 + 1 by omega), kq_up_i (show (1 : Int) ≠ 57 + 3 * σ 39 1 + 0 by omega)]
        refine ks_iconst (n := 159) S dX5_isDone_158 rfl (by unfold iv; decide) ?_
        refine ks_iadd (n := 160) S dX5_isDone_159 rfl (by omega) ?_
        refine ks_iastore (n := 161) S dX5_isDone_160 rfl rfl (by omega) ?_
        refine ks_iconst (n := 162) S dX5_isDone_161 rfl (by unfold iv; decide) ?_
        refine ks_zret S dX5_isDone_162 (by first | exact Or.inl rfl | exact Or.inr rfl | exact bi_01) ?_
        refine sayYes _ ((hq_p h15).2 (by omega)) ?_
        unfold m_hw
        rw [if_neg (by omega), if_pos h15]
        simp only [kq_up_sr, sr_sr, sr_r, m_addP]
      · skip
        refine ks_iconst (n := 102) S dX5_isDone_101 rfl (by unfold iv; decide) ?_
        refine ks_zret S dX5_isDone_102 (by first | exact Or.inl rfl | exact Or.inr rfl | exact bi_01) ?_
        exact sayNo (fun y => by have z := (hq_p h15).1 y; clear y; omega)
  · skip
    refine ks_aload_n (n := 214) S dX5_isDone_213 rfl rfl ?_
    refine ks_iload_n (n := 215) S dX5_isDone_214 rfl rfl ?_
    refine kf_v1z (n := 218) S dX5_isDone_215 rfl ml_X5_120 ym_X5_isDoor (ev_X5_isDoor n9) (by decide) rfl (Nat.le_of_ble_eq_true rfl) ?_
    refine ks_if_eq (n := 221) (tgt := 234) S dX5_isDone_218 rfl rfl (fun h218 => ?_) (fun h218 => ?_)
    · skip
      simp only [bi_eq, bi_ne, Classical.not_not] at h218
      refine ks_iconst (n := 235) S dX5_isDone_234 rfl (by unfold iv; decide) ?_
      refine ks_zret S dX5_isDone_235 (by first | exact Or.inl rfl | exact Or.inr rfl | exact bi_01) ?_
      exact sayNo (fun y => by have z := (hq_q h15).1 y; clear y; omega)
    · skip
      simp only [bi_eq, bi_ne, Classical.not_not] at h218
      refine ks_aload_n (n := 222) S dX5_isDone_221 rfl rfl ?_
      refine ks_aload_n (n := 223) S dX5_isDone_222 rfl rfl ?_
      refine ks_getr (n := 226) S dX5_isDone_223 rfl fl_X5_31 rfl rfl ?_
      refine ks_iconst (n := 227) S dX5_isDone_226 rfl (by unfold iv; decide) ?_
      refine ks_iaload (n := 228) S dX5_isDone_227 rfl rfl (by omega) ?_
      refine kf_v1z (n := 231) S dX5_isDone_228 rfl ml_X5_117 ym_X5_isPerson (ev_X5_isPerson n6) (by decide) rfl (Nat.le_of_ble_eq_true rfl) ?_
      refine ks_if_ne (n := 234) (tgt := 236) S dX5_isDone_231 rfl rfl (fun h231 => ?_) (fun h231 => ?_)
      · skip
        simp only [bi_eq, bi_ne, Classical.not_not] at h231
        refine ks_aload_n (n := 237) S dX5_isDone_236 rfl rfl ?_
        refine ks_getr (n := 240) S dX5_isDone_237 rfl fl_X5_9 rfl rfl ?_
        refine ks_iload_n (n := 241) S dX5_isDone_240 rfl rfl ?_
        refine ks_iload_n (n := 242) S dX5_isDone_241 rfl rfl ?_
        refine ks_aload_n (n := 243) S dX5_isDone_242 rfl rfl ?_
        refine ks_getr (n := 246) S dX5_isDone_243 rfl fl_X5_31 rfl rfl ?_
        refine ks_iconst (n := 247) S dX5_isDone_246 rfl (by unfold iv; decide) ?_
        refine ks_iaload (n := 248) S dX5_isDone_247 rfl rfl (by omega) ?_
        refine kf_s4v (n := 251) S dX5_isDone_248 rfl ml_X5_69 ym_X5_heats (ev_X5_heats rfl (by omega)) (by decide) (Nat.le_of_ble_eq_true rfl) ?_
        refine ks_iconst (n := 252) S dX5_isDone_251 rfl (by unfold iv; decide) ?_
        refine ks_zret S dX5_isDone_252 (by first | exact Or.inl rfl | exact Or.inr rfl | exact bi_01) ?_
        refine sayYes _ ((hq_q h15).2 (by omega)) ?_
        unfold m_hw
        rw [if_neg (by omega), if_neg (by omega), if_neg (by omega), if_pos h15]
      · skip
        simp only [bi_eq, bi_ne, Classical.not_not] at h231
        refine ks_iconst (n := 235) S dX5_isDone_234 rfl (by unfold iv; decide) ?_
        refine ks_zret S dX5_isDone_235 (by first | exact Or.inl rfl | exact Or.inr rfl | exact bi_01) ?_
        exact sayNo (fun y => by have z := (hq_q h15).1 y; clear y; omega)
  · skip
    have h104 : c = 104 := by omega
    refine ks_iload_n (n := 277) S dX5_isDone_276 rfl rfl ?_
    refine ks_iconst (n := 278) S dX5_isDone_277 rfl (by unfold iv; decide) ?_
    refine ks_bipush (n := 280) S dX5_isDone_278 rfl (by unfold iv; decide) ?_
    refine kf_s3z (n := 283) S dX5_isDone_280 rfl ml_X5_44 ym_X5_isIn (ev_X5_isIn) (by decide) (Nat.le_of_ble_eq_true rfl) ?_
    refine ks_if_eq (n := 286) (tgt := 300) S dX5_isDone_283 rfl rfl (fun h283 => ?_) (fun h283 => ?_)
    · skip
      simp only [bi_eq, bi_ne, Classical.not_not] at h283
      refine ks_iconst (n := 301) S dX5_isDone_300 rfl (by unfold iv; decide) ?_
      refine ks_zret S dX5_isDone_301 (by first | exact Or.inl rfl | exact Or.inr rfl | exact bi_01) ?_
      exact sayNo (fun y => by have z := (hq_h h104).1 y; clear y; omega)
    · skip
      simp only [bi_eq, bi_ne, Classical.not_not] at h283
      refine ks_aload_n (n := 287) S dX5_isDone_286 rfl rfl ?_
      refine ks_getr (n := 290) S dX5_isDone_287 rfl fl_X5_9 rfl rfl ?_
      refine ks_iconst (n := 291) S dX5_isDone_290 rfl (by unfold iv; decide) ?_
      refine ks_iaload (n := 292) S dX5_isDone_291 rfl rfl (by omega) ?_
      refine ks_iload_n (n := 293) S dX5_isDone_292 rfl rfl ?_
      refine ks_iadd (n := 294) S dX5_isDone_293 rfl (by omega) ?_
      refine ks_sipush (n := 297) S dX5_isDone_294 rfl (by unfold iv; decide) ?_
      refine ks_icmp_le (n := 300) (tgt := 302) S dX5_isDone_297 rfl rfl (fun h297 => ?_) (fun h297 => ?_)
      · skip
        refine ks_aload_n (n := 303) S dX5_isDone_302 rfl rfl ?_
        refine ks_getr (n := 306) S dX5_isDone_303 rfl fl_X5_9 rfl rfl ?_
        refine ks_iload_n (n := 307) S dX5_isDone_306 rfl rfl ?_
        refine kf_s2v (n := 310) S dX5_isDone_307 rfl ml_X5_130 ym_X5_hoursOn (ev_X5_hoursOn rfl ok (by omega) (by omega)) (by decide) (Nat.le_of_ble_eq_true rfl) ?_
        refine ks_iconst (n := 311) S dX5_isDone_310 rfl (by unfold iv; decide) ?_
        refine ks_zret S dX5_isDone_311 (by first | exact Or.inl rfl | exact Or.inr rfl | exact bi_01) ?_
        refine sayYes _ ((hq_h h104).2 (by omega)) ?_
        unfold m_hw
        rw [if_neg (by omega), if_neg (by omega), if_neg (by omega), if_neg (by omega), if_neg (by omega)]
      · skip
        refine ks_iconst (n := 301) S dX5_isDone_300 rfl (by unfold iv; decide) ?_
        refine ks_zret S dX5_isDone_301 (by first | exact Or.inl rfl | exact Or.inr rfl | exact bi_01) ?_
        exact sayNo (fun y => by have z := (hq_h h104).1 y; clear y; omega)
end READ3

