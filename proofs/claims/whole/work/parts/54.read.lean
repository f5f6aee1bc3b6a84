section READ
variable {l : Launch} {σ M : KS} {w a : RW} {n : Int} {c : Nat}
/-- the letters in the reference -/
def m_RT (σ : KS) (w : RW) (n : Int) : Prop := σ 38 8 = n ∧ (0 ≤ n ∧ n ≤ 96) ∧ σ 43 = w
/-- what reading changes: place and numbers -/
def FrN (σ τ : KS) : Prop := (∀ c, c ≠ 38 → c ≠ 46 → τ c = σ c) ∧ ∀ f, f ≠ 10 → τ 38 f = σ 38 f
theorem FrN.rf : FrN σ σ := ⟨fun _ _ _ => rfl, fun _ _ => rfl⟩
theorem FrN.tr {τ ρ : KS} (h : FrN σ τ) (g : FrN τ ρ) : FrN σ ρ := ⟨fun c h1 h2 => (g.1 c h1 h2).trans (h.1 c h1 h2), fun f hf => (g.2 f hf).trans (h.2 f hf)⟩
theorem FrN.pl {τ : KS} {v : Int} (h : FrN σ τ) : FrN σ (kq_up τ 38 10 v) := ⟨fun c h1 h2 => by rw [← h.1 c h1 h2]; exact funext fun j => kq_up_c h1, fun f hf => by rw [kq_up_i hf]; exact h.2 f hf⟩
theorem FrN.nu {τ : KS} {i v : Int} (h : FrN σ τ) : FrN σ (kq_up τ 46 i v) := ⟨fun c h1 h2 => by rw [← h.1 c h1 h2]; exact funext fun j => kq_up_c h2, fun f hf => by rw [kq_up_c (by decide)]; exact h.2 f hf⟩
theorem m_RT.fr {τ : KS} (h : m_RT σ w n) (g : FrN σ τ) : m_RT τ w n := ⟨by rw [g.2 8 (by decide)]; exact h.1, h.2.1, by rw [g.1 43 (by decide) (by decide)]; exact h.2.2⟩
def m_hr (w : RW) (n j : Int) : Int := if j < n then w j else -1
theorem m_hr_at {j : Int} (h : 0 ≤ j) : (m_hr w n j = m_at w n j ∧ j < n) ∨ (n ≤ j ∧ m_hr w n j = -1 ∧ m_at w n j = -9) := by
  unfold m_hr m_at
  by_cases hj : j < n
  · rw [if_pos hj, if_pos (by omega)]; exact Or.inl ⟨rfl, hj⟩
  · rw [if_neg hj, if_neg (by omega)]; exact Or.inr ⟨by omega, rfl, rfl⟩
theorem m_hr_kind {j : Int} (h : 0 ≤ j) : m_kind (m_hr w n j) = m_kind (m_at w n j) := by
  rcases m_hr_at (w := w) (n := n) h with ⟨e, -⟩ | ⟨-, e1, e2⟩
  · rw [e]
  · rw [e1, e2]; decide
theorem ev_X5_here {j : Int} (h : m_RT σ w n) (hj : σ 38 10 = j) (j0 : 0 ≤ j) : Ev l yX5_here cX5_here 1 (some .int) 0 0 [kr 38] σ (Rt (some (ki (m_hr w n j))) σ) := by
  obtain ⟨h1, h2, h3⟩ := h
  subst h3
  refine ev_intro ym_X5_here.1 (Nat.le_of_ble_eq_true rfl) (fun hv hσ K S => ?_)
  have hv := hv
  show K 0 [some (kr 38)] [] σ
  refine ks_aload_n (n := 1) S dX5_here_0 rfl rfl ?_
  refine ks_getI (n := 4) (fi := 10) S dX5_here_1 rfl fl_X5_91 rfl rfl rfl ?_
  refine ks_aload_n (n := 5) S dX5_here_4 rfl rfl ?_
  refine ks_getI (n := 8) (fi := 8) S dX5_here_5 rfl fl_X5_87 rfl rfl rfl ?_
  refine ks_icmp_ge (n := 11) (tgt := 23) S dX5_here_8 rfl rfl (fun h8 => ?_) (fun h8 => ?_)
  · skip
    refine ks_iconst (n := 24) S dX5_here_23 rfl (by unfold iv; decide) ?_
    refine ks_iret S dX5_here_24 ?_
    first | exact rt_e (by unfold m_hr; rw [if_neg (by omega)]) | exact rt_e (by unfold m_hr; rw [if_pos (by omega), hj])
  · skip
    refine ks_aload_n (n := 12) S dX5_here_11 rfl rfl ?_
    refine ks_getr (n := 15) S dX5_here_12 rfl fl_X5_22 rfl rfl ?_
    refine ks_aload_n (n := 16) S dX5_here_15 rfl rfl ?_
    refine ks_getI (n := 19) (fi := 10) S dX5_here_16 rfl fl_X5_91 rfl rfl rfl ?_
    refine ks_iaload (n := 20) S dX5_here_19 rfl rfl (by omega) ?_
    refine ks_goto (n := 24) S dX5_here_20 rfl ?_
    refine ks_iret S dX5_here_24 ?_
    first | exact rt_e (by unfold m_hr; rw [if_neg (by omega)]) | exact rt_e (by unfold m_hr; rw [if_pos (by omega), hj])
theorem ev_X5_kindBy {v : Int} : Ev l yX5_kindBy cX5_kindBy 1 (some .int) 0 0 [ki v] σ (Rt (some (ki (m_kind v))) σ) := by
  refine ev_intro ym_X5_kindBy.1 (Nat.le_of_ble_eq_true rfl) (fun hv hσ K S => ?_)
  have hv := hv
  show K 0 [some (ki v)] [] σ
  refine ks_iload_n (n := 1) S dX5_kindBy_0 rfl rfl ?_
  refine ks_table S (tdf := 100) [98, 92, 88, 100, 100, 96, 100, 100, 100, 100, 100, 100, 100, 90, 100, 100, 100, 94] dX5_kindBy_1 (by decide) (by decide) rfl (fun h1 => ?_) (And.intro (fun h1 => ?_) (And.intro (fun h1 => ?_) (And.intro (fun h1 => ?_) (And.intro (fun h1 => ?_) (And.intro (fun h1 => ?_) (And.intro (fun h1 => ?_) (And.intro (fun h1 => ?_) (And.intro (fun h1 => ?_) (And.intro (fun h1 => ?_) (And.intro (fun h1 => ?_) (And.intro (fun h1 => ?_) (And.intro (fun h1 => ?_) (And.intro (fun h1 => ?_) (And.intro (fun h1 => ?_) (And.intro (fun h1 => ?_) (And.intro (fun h1 => ?_) (And.intro (fun h1 => ?_) (And.intro (fun h1 => ?_) trivial))))))))))))))))))
  · skip
    refine ks_bipush (n := 102) S dX5_kindBy_100 rfl (by unfold iv; decide) ?_
    refine ks_iret S dX5_kindBy_102 ?_
    exact rt_e (by unfold m_kind; (repeat' split) <;> omega)
  · skip
    refine ks_iconst (n := 99) S dX5_kindBy_98 rfl (by unfold iv; decide) ?_
    refine ks_iret S dX5_kindBy_99 ?_
    exact rt_e (by unfold m_kind; (repeat' split) <;> omega)
  · skip
    refine ks_iconst (n := 93) S dX5_kindBy_92 rfl (by unfold iv; decide) ?_
    refine ks_iret S dX5_kindBy_93 ?_
    exact rt_e (by unfold m_kind; (repeat' split) <;> omega)
  · skip
    refine ks_iconst (n := 89) S dX5_kindBy_88 rfl (by unfold iv; decide) ?_
    refine ks_iret S dX5_kindBy_89 ?_
    exact rt_e (by unfold m_kind; (repeat' split) <;> omega)
  · skip
    refine ks_bipush (n := 102) S dX5_kindBy_100 rfl (by unfold iv; decide) ?_
    refine ks_iret S dX5_kindBy_102 ?_
    exact rt_e (by unfold m_kind; (repeat' split) <;> omega)
  · skip
    refine ks_bipush (n := 102) S dX5_kindBy_100 rfl (by unfold iv; decide) ?_
    refine ks_iret S dX5_kindBy_102 ?_
    exact rt_e (by unfold m_kind; (repeat' split) <;> omega)
  · skip
    refine ks_iconst (n := 97) S dX5_kindBy_96 rfl (by unfold iv; decide) ?_
    refine ks_iret S dX5_kindBy_97 ?_
    exact rt_e (by unfold m_kind; (repeat' split) <;> omega)
  · skip
    refine ks_bipush (n := 102) S dX5_kindBy_100 rfl (by unfold iv; decide) ?_
    refine ks_iret S dX5_kindBy_102 ?_
    exact rt_e (by unfold m_kind; (repeat' split) <;> omega)
  · skip
    refine ks_bipush (n := 102) S dX5_kindBy_100 rfl (by unfold iv; decide) ?_
    refine ks_iret S dX5_kindBy_102 ?_
    exact rt_e (by unfold m_kind; (repeat' split) <;> omega)
  · skip
    refine ks_bipush (n := 102) S dX5_kindBy_100 rfl (by unfold iv; decide) ?_
    refine ks_iret S dX5_kindBy_102 ?_
    exact rt_e (by unfold m_kind; (repeat' split) <;> omega)
  · skip
    refine ks_bipush (n := 102) S dX5_kindBy_100 rfl (by unfold iv; decide) ?_
    refine ks_iret S dX5_kindBy_102 ?_
    exact rt_e (by unfold m_kind; (repeat' split) <;> omega)
  · skip
    refine ks_bipush (n := 102) S dX5_kindBy_100 rfl (by unfold iv; decide) ?_
    refine ks_iret S dX5_kindBy_102 ?_
    exact rt_e (by unfold m_kind; (repeat' split) <;> omega)
  · skip
    refine ks_bipush (n := 102) S dX5_kindBy_100 rfl (by unfold iv; decide) ?_
    refine ks_iret S dX5_kindBy_102 ?_
    exact rt_e (by unfold m_kind; (repeat' split) <;> omega)
  · skip
    refine ks_bipush (n := 102) S dX5_kindBy_100 rfl (by unfold iv; decide) ?_
    refine ks_iret S dX5_kindBy_102 ?_
    exact rt_e (by unfold m_kind; (repeat' split) <;> omega)
  · skip
    refine ks_iconst (n := 91) S dX5_kindBy_90 rfl (by unfold iv; decide) ?_
    refine ks_iret S dX5_kindBy_91 ?_
    exact rt_e (by unfold m_kind; (repeat' split) <;> omega)
  · skip
    refine ks_bipush (n := 102) S dX5_kindBy_100 rfl (by unfold iv; decide) ?_
    refine ks_iret S dX5_kindBy_102 ?_
    exact rt_e (by unfold m_kind; (repeat' split) <;> omega)
  · skip
    refine ks_bipush (n := 102) S dX5_kindBy_100 rfl (by unfold iv; decide) ?_
    refine ks_iret S dX5_kindBy_102 ?_
    exact rt_e (by unfold m_kind; (repeat' split) <;> omega)
  · skip
    refine ks_bipush (n := 102) S dX5_kindBy_100 rfl (by unfold iv; decide) ?_
    refine ks_iret S dX5_kindBy_102 ?_
    exact rt_e (by unfold m_kind; (repeat' split) <;> omega)
  · skip
    refine ks_iconst (n := 95) S dX5_kindBy_94 rfl (by unfold iv; decide) ?_
    refine ks_iret S dX5_kindBy_95 ?_
    exact rt_e (by unfold m_kind; (repeat' split) <;> omega)
theorem ev_X5_readsNumber {i k j : Int} (h : m_RT σ w n) (hj : σ 38 10 = j) (j0 : 0 ≤ j ∧ j ≤ 150) (hi : 0 ≤ i ∧ i ≤ 3) (hk : k = 1 ∨ k = 2) : Ev l yX5_readsNumber cX5_readsNumber 4 (some .boolean) 1 22 [kr 38, ki i, ki k] σ (fun r τ => r = some (ki (bi (m_ig w n j ∧ (k = 1 ∨ m_ig w n (j + 1))))) ∧ FrN σ τ ∧ (∀ i', i' ≠ i → τ 46 i' = σ 46 i') ∧ (m_ig w n j → (k = 1 ∨ m_ig w n (j + 1)) → τ 38 10 = j + k ∧ τ 46 i = if k = 1 then m_dg w n j else 10 * m_dg w n j + m_dg w n (j + 1)) ∧ (¬ m_ig w n j → τ 38 10 = j) ∧ (m_ig w n j → ¬ (k = 1 ∨ m_ig w n (j + 1)) → τ 38 10 = j + 1)) := by
  have b1 := m_dg_b (w := w) (n := n) (j := j)
  have b2 := m_dg_b (w := w) (n := n) (j := j + 1)
  refine ev_intro ym_X5_readsNumber.1 (Nat.le_of_ble_eq_true rfl) (fun hv hσ K S => ?_)
  have hv := hv
  show K 0 [some (kr 38), some (ki i), some (ki k), none] [] σ
  refine kq_use (kq_for (α := KS) k (fun t s => 0 ≤ t ∧ FrN σ s ∧ (∀ i', i' ≠ i → s 46 i' = σ 46 i') ∧ s 38 10 = j + t ∧ (1 ≤ t → m_ig w n j) ∧ (2 ≤ t → m_ig w n (j + 1)) ∧ s 46 i = if t = 0 then 0 else if t = 1 then m_dg w n j else 10 * m_dg w n j + m_dg w n (j + 1)) (fun t s => K 9 [some (kr 38), some (ki i), some (ki k), some (ki t)] [] s) ?_) (fun lp => ?_)
  · intro t s ht inv ih
    obtain ⟨t0, iF, iO, iP, i1, i2, iN⟩ := inv
    have hT := h.fr iF
    have hb : 0 ≤ s 46 i ∧ s 46 i ≤ 99 := by rw [iN]; (repeat' split) <;> omega
    have hh := m_hr_at (w := w) (n := n) (j := j + t) (by omega)
    refine ks_iload_n (n := 10) S dX5_readsNumber_9 rfl rfl ?_
    refine ks_iload_n (n := 11) S dX5_readsNumber_10 rfl rfl ?_
    refine ks_icmp_ge (n := 14) (tgt := 69) S dX5_readsNumber_11 rfl rfl (fun h11 => ?_) (fun h11 => ?_)
    · skip
      refine ks_iconst (n := 70) S dX5_readsNumber_69 rfl (by unfold iv; decide) ?_
      refine ks_zret S dX5_readsNumber_70 (by first | exact Or.inl rfl | exact Or.inr rfl | exact bi_01) ?_
      have htk : t = k := by omega
      subst htk
      have g1 := i1 (by omega)
      have g2 : t = 1 ∨ m_ig w n (j + 1) := by
        rcases hk with hk | hk
        · exact Or.inl hk
        · exact Or.inr (i2 (by omega))
      refine ⟨by rw [bi_t ⟨g1, g2⟩], iF, iO, fun _ _ => ⟨iP, ?_⟩, fun hn => absurd g1 hn, fun _ hn => absurd g2 hn⟩
      rw [iN, if_neg (by omega)]
    · skip
      refine ks_aload_n (n := 15) S dX5_readsNumber_14 rfl rfl ?_
      refine kf_v0i (n := 18) S dX5_readsNumber_15 rfl ml_X5_94 ym_X5_here (ev_X5_here hT iP (by omega)) (by decide) rfl (Nat.le_of_ble_eq_true rfl) ?_
      refine ks_bipush (n := 20) S dX5_readsNumber_18 rfl (by unfold iv; decide) ?_
      refine ks_bipush (n := 22) S dX5_readsNumber_20 rfl (by unfold iv; decide) ?_
      refine kf_s3z (n := 25) S dX5_readsNumber_22 rfl ml_X5_44 ym_X5_isIn (ev_X5_isIn) (by decide) (Nat.le_of_ble_eq_true rfl) ?_
      refine ks_if_ne (n := 28) (tgt := 30) S dX5_readsNumber_25 rfl rfl (fun h25 => ?_) (fun h25 => ?_)
      · skip
        simp only [bi_eq, bi_ne, Classical.not_not] at h25
        refine ks_aload_n (n := 31) S dX5_readsNumber_30 rfl rfl ?_
        refine ks_getr (n := 34) S dX5_readsNumber_31 rfl fl_X5_31 rfl rfl ?_
        refine ks_iload_n (n := 35) S dX5_readsNumber_34 rfl rfl ?_
        refine ks_bipush (n := 37) S dX5_readsNumber_35 rfl (by unfold iv; decide) ?_
        refine ks_aload_n (n := 38) S dX5_readsNumber_37 rfl rfl ?_
        refine ks_getr (n := 41) S dX5_readsNumber_38 rfl fl_X5_31 rfl rfl ?_
        refine ks_iload_n (n := 42) S dX5_readsNumber_41 rfl rfl ?_
        refine ks_iaload (n := 43) S dX5_readsNumber_42 rfl rfl (by omega) ?_
        refine ks_imul (n := 44) S dX5_readsNumber_43 rfl (by omega) ?_
        refine ks_aload_n (n := 45) S dX5_readsNumber_44 rfl rfl ?_
        refine kf_v0i (n := 48) S dX5_readsNumber_45 rfl ml_X5_94 ym_X5_here (ev_X5_here hT iP (by omega)) (by decide) rfl (Nat.le_of_ble_eq_true rfl) ?_
        refine ks_iadd (n := 49) S dX5_readsNumber_48 rfl (by omega) ?_
        refine ks_bipush (n := 51) S dX5_readsNumber_49 rfl (by unfold iv; decide) ?_
        refine ks_isub (n := 52) S dX5_readsNumber_51 rfl (by omega) ?_
        refine ks_iastore (n := 53) S dX5_readsNumber_52 rfl rfl (by omega) ?_
        refine ks_aload_n (n := 54) S dX5_readsNumber_53 rfl rfl ?_
        refine ks_dup (n := 55) S dX5_readsNumber_54 rfl rfl ?_
        refine ks_getI (n := 58) (fi := 10) S dX5_readsNumber_55 rfl fl_X5_91 rfl rfl rfl ?_
        rw [kq_up_c (show (38 : Nat) ≠ 46 by decide)]
        refine ks_iconst (n := 59) S dX5_readsNumber_58 rfl (by unfold iv; decide) ?_
        refine ks_iadd (n := 60) S dX5_readsNumber_59 rfl (by omega) ?_
        refine ks_putI (n := 63) (fi := 10) S dX5_readsNumber_60 rfl fw_X5_91 rfl rfl (Or.inl rfl) rfl ?_
        refine ks_iinc (n := 66) S dX5_readsNumber_63 rfl rfl (by omega) (L' := fun yy => [some (kr 38), some (ki i), some (ki k), some (ki yy)]) (fun _ => rfl) (fun v3_63 hv63 => ?_)
        subst v3_63
        refine ks_goto (n := 9) S dX5_readsNumber_66 rfl ?_
        have hig : m_ig w n (j + t) := by omega
        have hdg : m_dg w n (j + t) = m_hr w n (j + t) - 48 := by
          unfold m_dg
          rw [if_pos hig]
          omega
        refine ih _ (by omega) ⟨by omega, iF.nu.pl, fun i' hi' => ?_, ?_, ?_, ?_, ?_⟩
        · rw [kq_up_c (by decide), kq_up_i hi']; exact iO i' hi'
        · rw [kq_up_s]; omega
        · intro _
          by_cases ht0 : t = 0
          · rw [show j + t = j by omega] at hig; exact hig
          · exact i1 (by omega)
        · intro _
          rw [show j + t = j + 1 by omega] at hig
          exact hig
        · rw [kq_up_c (by decide), kq_up_s, iN]
          by_cases ht0 : t = 0
          · rw [show j + t = j by omega] at hdg ⊢
            rw [if_pos ht0, if_neg (by omega), if_pos (by omega)]; omega
          · rw [show j + t = j + 1 by omega] at hdg ⊢
            rw [if_neg ht0, if_pos (by omega), if_neg (by omega), if_neg (by omega)]; omega
      · skip
        simp only [bi_eq, bi_ne, Classical.not_not] at h25
        refine ks_iconst (n := 29) S dX5_readsNumber_28 rfl (by unfold iv; decide) ?_
        refine ks_zret S dX5_readsNumber_29 (by first | exact Or.inl rfl | exact Or.inr rfl | exact bi_01) ?_
        have hni : ¬ m_ig w n (j + t) := by omega
        by_cases ht0 : t = 0
        · subst ht0
          rw [show j + 0 = j by omega] at hni iP
          exact ⟨by rw [bi_f (fun y => hni y.1)], iF, iO, fun y => absurd y hni, fun _ => iP, fun y => absurd y hni⟩
        · have ht1 : t = 1 := by omega
          subst ht1
          have g1 := i1 (by omega)
          have g2 : ¬ (k = 1 ∨ m_ig w n (j + 1)) := fun y => by
            rcases y with y | y
            · omega
            · exact hni y
          exact ⟨by rw [bi_f (fun y => g2 y.2)], iF, iO, fun _ y => absurd y g2, fun y => absurd g1 y, fun _ _ => iP⟩
  refine ks_aload_n (n := 1) S dX5_readsNumber_0 rfl rfl ?_
  refine ks_getr (n := 4) S dX5_readsNumber_1 rfl fl_X5_31 rfl rfl ?_
  refine ks_iload_n (n := 5) S dX5_readsNumber_4 rfl rfl ?_
  refine ks_iconst (n := 6) S dX5_readsNumber_5 rfl (by unfold iv; decide) ?_
  refine ks_iastore (n := 7) S dX5_readsNumber_6 rfl rfl (by omega) ?_
  refine ks_iconst (n := 8) S dX5_readsNumber_7 rfl (by unfold iv; decide) ?_
  refine ks_istore_n (n := 9) S dX5_readsNumber_8 rfl rfl (L' := fun yy => [some (kr 38), some (ki i), some (ki k), some (ki yy)]) (Nat.le_of_ble_eq_true rfl) (fun _ => rfl) (fun v3_8 hv8 => ?_)
  obtain rfl : v3_8 = 0 := by omega
  exact lp 0 _ (by omega) ⟨by omega, FrN.rf.nu, fun i' hi' => kq_up_i hi', by rw [kq_up_c (by decide)]; omega, fun y => by omega, fun y => by omega, by rw [kq_up_s]; rfl⟩
theorem ev_X5_readsKind {j : Int} (h : m_RT σ w n) (hj : σ 38 10 = j) (j0 : 0 ≤ j ∧ j ≤ 150) : Ev l yX5_readsKind cX5_readsKind 1 (some .boolean) 1 20 [kr 38] σ (fun r τ => r = some (ki (bi (m_kind (m_at w n j) ≠ -9))) ∧ FrN σ τ ∧ (m_kind (m_at w n j) ≠ -9 → τ 38 10 = j + 1 ∧ τ 46 0 = m_kind (m_at w n j)) ∧ (m_kind (m_at w n j) = -9 → τ 38 10 = j)) := by
  have hkb : m_kind (m_at w n j) = -9 ∨ 0 ≤ m_kind (m_at w n j) := by unfold m_kind; (repeat' split) <;> omega
  refine ev_intro ym_X5_readsKind.1 (Nat.le_of_ble_eq_true rfl) (fun hv hσ K S => ?_)
  have hv := hv
  show K 0 [some (kr 38)] [] σ
  refine ks_aload_n (n := 1) S dX5_readsKind_0 rfl rfl ?_
  refine ks_getr (n := 4) S dX5_readsKind_1 rfl fl_X5_31 rfl rfl ?_
  refine ks_iconst (n := 5) S dX5_readsKind_4 rfl (by unfold iv; decide) ?_
  refine ks_aload_n (n := 6) S dX5_readsKind_5 rfl rfl ?_
  refine kf_v0i (n := 9) S dX5_readsKind_6 rfl ml_X5_94 ym_X5_here (ev_X5_here h hj (by omega)) (by decide) rfl (Nat.le_of_ble_eq_true rfl) ?_
  refine kf_s1i (n := 12) S dX5_readsKind_9 rfl ml_X5_98 ym_X5_kindBy (ev_X5_kindBy) (by decide) (Nat.le_of_ble_eq_true rfl) ?_
  rw [m_hr_kind j0.1]
  refine ks_iastore (n := 13) S dX5_readsKind_12 rfl rfl (by omega) ?_
  refine ks_aload_n (n := 14) S dX5_readsKind_13 rfl rfl ?_
  refine ks_dup (n := 15) S dX5_readsKind_14 rfl rfl ?_
  refine ks_getI (n := 18) (fi := 10) S dX5_readsKind_15 rfl fl_X5_91 rfl rfl rfl ?_
  rw [kq_up_c (show (38 : Nat) ≠ 46 by decide), hj]
  refine ks_aload_n (n := 19) S dX5_readsKind_18 rfl rfl ?_
  refine ks_getr (n := 22) S dX5_readsKind_19 rfl fl_X5_31 rfl rfl ?_
  refine ks_iconst (n := 23) S dX5_readsKind_22 rfl (by unfold iv; decide) ?_
  refine ks_iaload (n := 24) S dX5_readsKind_23 rfl rfl (by omega) ?_
  rw [kq_up_s]
  refine ks_if_ge (n := 27) (tgt := 31) S dX5_readsKind_24 rfl rfl (fun h24 => ?_) (fun h24 => ?_)
  · skip
    refine ks_iconst (n := 32) S dX5_readsKind_31 rfl (by unfold iv; decide) ?_
    refine ks_iadd (n := 33) S dX5_readsKind_32 rfl (by omega) ?_
    refine ks_putI (n := 36) (fi := 10) S dX5_readsKind_33 rfl fw_X5_91 rfl rfl (Or.inl rfl) rfl ?_
    refine ks_aload_n (n := 37) S dX5_readsKind_36 rfl rfl ?_
    refine ks_getr (n := 40) S dX5_readsKind_37 rfl fl_X5_31 rfl rfl ?_
    refine ks_iconst (n := 41) S dX5_readsKind_40 rfl (by unfold iv; decide) ?_
    refine ks_iaload (n := 42) S dX5_readsKind_41 rfl rfl (by omega) ?_
    rw [kq_up_c (show (46 : Nat) ≠ 38 by decide), kq_up_s]
    refine ks_if_lt (n := 45) (tgt := 49) S dX5_readsKind_42 rfl rfl (fun h42 => ?_) (fun h42 => ?_)
    · skip
      refine ks_iconst (n := 50) S dX5_readsKind_49 rfl (by unfold iv; decide) ?_
      refine ks_zret S dX5_readsKind_50 (by first | exact Or.inl rfl | exact Or.inr rfl | exact bi_01) ?_
      first
      | omega
      | exact ⟨by rw [bi_t (by omega)], FrN.rf.nu.pl, fun _ => ⟨by rw [kq_up_s], by rw [kq_up_c (by decide), kq_up_s]⟩, fun y => by omega⟩
      | exact ⟨by rw [bi_f (by omega)], FrN.rf.nu.pl, fun y => by omega, fun y => by rw [kq_up_s]; omega⟩
    · skip
      refine ks_iconst (n := 46) S dX5_readsKind_45 rfl (by unfold iv; decide) ?_
      refine ks_goto (n := 50) S dX5_readsKind_46 rfl ?_
      refine ks_zret S dX5_readsKind_50 (by first | exact Or.inl rfl | exact Or.inr rfl | exact bi_01) ?_
      first
      | omega
      | exact ⟨by rw [bi_t (by omega)], FrN.rf.nu.pl, fun _ => ⟨by rw [kq_up_s], by rw [kq_up_c (by decide), kq_up_s]⟩, fun y => by omega⟩
      | exact ⟨by rw [bi_f (by omega)], FrN.rf.nu.pl, fun y => by omega, fun y => by rw [kq_up_s]; omega⟩
  · skip
    refine ks_iconst (n := 28) S dX5_readsKind_27 rfl (by unfold iv; decide) ?_
    refine ks_goto (n := 32) S dX5_readsKind_28 rfl ?_
    refine ks_iadd (n := 33) S dX5_readsKind_32 rfl (by omega) ?_
    refine ks_putI (n := 36) (fi := 10) S dX5_readsKind_33 rfl fw_X5_91 rfl rfl (Or.inl rfl) rfl ?_
    refine ks_aload_n (n := 37) S dX5_readsKind_36 rfl rfl ?_
    refine ks_getr (n := 40) S dX5_readsKind_37 rfl fl_X5_31 rfl rfl ?_
    refine ks_iconst (n := 41) S dX5_readsKind_40 rfl (by unfold iv; decide) ?_
    refine ks_iaload (n := 42) S dX5_readsKind_41 rfl rfl (by omega) ?_
    rw [kq_up_c (show (46 : Nat) ≠ 38 by decide), kq_up_s]
    refine ks_if_lt (n := 45) (tgt := 49) S dX5_readsKind_42 rfl rfl (fun h42 => ?_) (fun h42 => ?_)
    · skip
      refine ks_iconst (n := 50) S dX5_readsKind_49 rfl (by unfold iv; decide) ?_
      refine ks_zret S dX5_readsKind_50 (by first | exact Or.inl rfl | exact Or.inr rfl | exact bi_01) ?_
      first
      | omega
      | exact ⟨by rw [bi_t (by omega)], FrN.rf.nu.pl, fun _ => ⟨by rw [kq_up_s], by rw [kq_up_c (by decide), kq_up_s]⟩, fun y => by omega⟩
      | exact ⟨by rw [bi_f (by omega)], FrN.rf.nu.pl, fun y => by omega, fun y => by rw [kq_up_s]; omega⟩
    · skip
      refine ks_iconst (n := 46) S dX5_readsKind_45 rfl (by unfold iv; decide) ?_
      refine ks_goto (n := 50) S dX5_readsKind_46 rfl ?_
      refine ks_zret S dX5_readsKind_50 (by first | exact Or.inl rfl | exact Or.inr rfl | exact bi_01) ?_
      first
      | omega
      | exact ⟨by rw [bi_t (by omega)], FrN.rf.nu.pl, fun _ => ⟨by rw [kq_up_s], by rw [kq_up_c (by decide), kq_up_s]⟩, fun y => by omega⟩
      | exact ⟨by rw [bi_f (by omega)], FrN.rf.nu.pl, fun y => by omega, fun y => by rw [kq_up_s]; omega⟩
end READ

