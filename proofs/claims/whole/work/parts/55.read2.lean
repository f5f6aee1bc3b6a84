section READ2
variable {l : Launch} {σ M ρ : KS} {w a : RW} {n b x : Int} {c : Nat} {Q : Option KV → KS → Prop} {K : Nat → KL → List KV → KS → Prop}
/-- the numbers read of the statement at b -/
def m_NU (τ : KS) (w : RW) (n b : Int) : Prop := τ 46 0 = m_x0 w n b ∧ ((m_at w n b = 100 ∨ m_at w n b = 112 ∨ m_at w n b = 111 ∨ m_at w n b = 113) → τ 46 1 = m_x1 w n b) ∧ ((m_at w n b = 100 ∨ m_at w n b = 113) → τ 46 2 = m_x2 w n b) ∧ (m_at w n b = 100 → τ 46 3 = m_x3 w n b)
theorem m_fl {τ : KS} {k j : Int} (hk : m_ln (m_at w n b) = k) (hj : b < j ∧ j < b + k) (hb : 0 ≤ b) (hp : τ 38 10 = j) (hf : ∀ j', b < j' → j' < j → m_ft w n j' b k) (hn : ¬ m_ft w n j b k) : m_fp w n b ≠ -9 ∧ τ 38 10 = m_fp w n b := by
  rw [m_fp_bad hk (by omega) hj hf hn]
  omega
theorem m_fdig {j k : Int} (h1 : j ≠ b + k - 1) (h2 : ¬ (j = b + 1 ∧ m_at w n b = 100)) : m_ft w n j b k ↔ m_ig w n j := by
  constructor <;> intro y <;> omega
theorem m_fkind {k : Int} (h1 : b + 1 ≠ b + k - 1) (h2 : m_at w n b = 100) : m_ft w n (b + 1) b k ↔ m_kind (m_at w n (b + 1)) ≠ -9 := by
  constructor <;> intro y <;> omega
theorem m_q1 {k : Int} : ∀ j', b < j' → j' < b + 1 → m_ft w n j' b k := fun j' y1 y2 => absurd y2 (by omega)
theorem m_q2 {k : Int} (t1 : m_ft w n (b + 1) b k) : ∀ j', b < j' → j' < b + 2 → m_ft w n j' b k := fun j' y1 y2 => by
  obtain rfl : j' = b + 1 := by omega
  exact t1
theorem m_q3 {k : Int} (t1 : m_ft w n (b + 1) b k) (t2 : m_ft w n (b + 2) b k) : ∀ j', b < j' → j' < b + 3 → m_ft w n j' b k := fun j' y1 y2 => by
  by_cases e : j' = b + 2
  · subst e; exact t2
  · exact m_q2 t1 j' y1 (by omega)
theorem m_q4 {k : Int} (t1 : m_ft w n (b + 1) b k) (t2 : m_ft w n (b + 2) b k) (t3 : m_ft w n (b + 3) b k) : ∀ j', b < j' → j' < b + 4 → m_ft w n j' b k := fun j' y1 y2 => by
  by_cases e : j' = b + 3
  · subst e; exact t3
  · exact m_q3 t1 t2 j' y1 (by omega)
theorem m_q5 {k : Int} (t1 : m_ft w n (b + 1) b k) (t2 : m_ft w n (b + 2) b k) (t3 : m_ft w n (b + 3) b k) (t4 : m_ft w n (b + 4) b k) : ∀ j', b < j' → j' < b + 5 → m_ft w n j' b k := fun j' y1 y2 => by
  by_cases e : j' = b + 4
  · subst e; exact t4
  · exact m_q4 t1 t2 t3 j' y1 (by omega)
def RsJ (K : Nat → KL → List KV → KS → Prop) (ρ : KS) (w : RW) (n b x : Int) : Prop := ∀ (τ : KS) (v : Int), FrN ρ τ → (v = 0 ∨ v = 1) → (v = 1 → 3 ≤ m_ln (m_at w n b) ∧ τ 38 10 = b + m_ln (m_at w n b) - 1 ∧ (∀ j', b < j' → j' < b + m_ln (m_at w n b) - 1 → m_ft w n j' b (m_ln (m_at w n b))) ∧ m_NU τ w n b) → (v = 0 → m_fp w n b ≠ -9 ∧ τ 38 10 = m_fp w n b) → K 238 [some (kr 38), some (ki x), some (ki v)] [] τ
theorem RsJ.no {τ : KS} (h : RsJ K ρ w n b x) (g : FrN ρ τ) (hz : m_fp w n b ≠ -9 ∧ τ 38 10 = m_fp w n b) : K 238 [some (kr 38), some (ki x), some (ki 0)] [] τ := h τ 0 g (Or.inl rfl) (fun y => absurd y (by decide)) (fun _ => hz)
theorem RsJ.yes {τ : KS} {k : Int} (h : RsJ K ρ w n b x) (g : FrN ρ τ) (hk : m_ln (m_at w n b) = k) (h3 : 3 ≤ k) (hp : τ 38 10 = b + k - 1) {e : Int} (he : e = b + k - 1) (hf : ∀ j', b < j' → j' < e → m_ft w n j' b k) (hn : m_NU τ w n b) : K 238 [some (kr 38), some (ki x), some (ki 1)] [] τ := h τ 1 g (Or.inr rfl) (fun _ => ⟨by omega, by omega, by rw [hk, ← he]; exact hf, hn⟩) (fun y => absurd y (by decide))
theorem rs_d (S : Sem l cX5_readsStatement yX5_readsStatement.cls (some .boolean) 2 45 Q K) (h : m_RT ρ w n) (P0 : ρ 38 10 = b + 1) (b0 : 0 ≤ b ∧ b ≤ 100) (hJ : RsJ K ρ w n b x) (hc : m_at w n b = 100) : K 100 [some (kr 38), some (ki x), none] [] ρ := by
  have G0 : FrN ρ ρ := FrN.rf
  have hk : m_ln (m_at w n b) = 6 := by unfold m_ln; (repeat' split) <;> omega
  refine kq_use (p := ∀ τ : KS, FrN ρ τ → (m_fp w n b ≠ -9 ∧ τ 38 10 = m_fp w n b) → K 138 [some (kr 38), some (ki x), none] [] τ) ?_ (fun hN => ?_)
  · intro τ G hz
    refine ks_iconst (n := 139) S dX5_readsStatement_138 rfl (by unfold iv; decide) ?_
    refine ks_istore_n (n := 140) S dX5_readsStatement_139 rfl rfl (L' := fun yy => [some (kr 38), some (ki x), some (ki yy)]) (Nat.le_of_ble_eq_true rfl) (fun _ => rfl) (fun v2_139 hv139 => ?_)
    obtain rfl : v2_139 = 0 := by omega
    refine ks_goto (n := 238) S dX5_readsStatement_140 rfl ?_
    exact hJ.no G hz
  refine ks_aload_n (n := 101) S dX5_readsStatement_100 rfl rfl ?_
  refine ks_v0z (n := 104) S dX5_readsStatement_101 rfl ml_X5_101 ym_X5_readsKind (ev_X5_readsKind h P0 (by omega)) (by decide) rfl (Nat.le_of_ble_eq_true rfl) (fun r101 τ101 q101 => ?_)
  obtain ⟨y101, F101, g101, n101⟩ := q101
  have y101 := kq_si y101
  subst y101
  have G101 : FrN ρ τ101 := F101
  have t1 := m_fkind (w := w) (n := n) (b := b) (k := 6) (by omega) hc
  have FL101 : m_kind (m_at w n (b + 1)) = -9 → _ := fun y => hN τ101 G101 (m_fl hk (by omega) (by omega) (n101 y) m_q1 (fun z => t1.1 z y))
  refine ks_if_eq (n := 107) (tgt := 138) S dX5_readsStatement_104 rfl rfl (fun h104 => ?_) (fun h104 => ?_)
  · skip
    simp only [bi_eq, bi_ne, Classical.not_not] at h104
    first
    | exact FL128 (fun y => h131 ⟨y, Or.inl (by trivial)⟩)
    | exact FL119 (fun y => h122 ⟨y, Or.inl (by trivial)⟩)
    | exact FL110 (fun y => h113 ⟨y, Or.inl (by trivial)⟩)
    | exact FL101 (Classical.not_not.1 h104)
    | exact FL101 h104
  · skip
    simp only [bi_eq, bi_ne, Classical.not_not] at h104
    have P1 : τ101 38 10 = b + 2 := by have := (g101 h104).1; omega
    refine ks_aload_n (n := 108) S dX5_readsStatement_107 rfl rfl ?_
    refine ks_iconst (n := 109) S dX5_readsStatement_108 rfl (by unfold iv; decide) ?_
    refine ks_iconst (n := 110) S dX5_readsStatement_109 rfl (by unfold iv; decide) ?_
    refine ks_v2z (n := 113) S dX5_readsStatement_110 rfl ml_X5_105 ym_X5_readsNumber (ev_X5_readsNumber (h.fr G101) P1 (by omega) (by omega) (Or.inl rfl)) (by decide) rfl (Nat.le_of_ble_eq_true rfl) (fun r110 τ110 q110 => ?_)
    obtain ⟨y110, F110, o110, g110, n110, p110⟩ := q110
    have y110 := kq_si y110
    subst y110
    have G110 := FrN.tr G101 F110
    have t2 := m_fdig (w := w) (n := n) (b := b) (j := b + 2) (k := 6) (by omega) (by omega)
    have FL110 : ¬ m_ig w n (b + 2) → _ := fun y => hN τ110 G110 (m_fl hk (by omega) (by omega) (n110 y) (m_q2 (t1.2 h104)) (fun z => y (t2.1 z)))
    refine ks_if_eq (n := 116) (tgt := 138) S dX5_readsStatement_113 rfl rfl (fun h113 => ?_) (fun h113 => ?_)
    · skip
      simp only [bi_eq, bi_ne, Classical.not_not] at h113
      first
      | exact FL128 (fun y => h131 ⟨y, Or.inl (by trivial)⟩)
      | exact FL119 (fun y => h122 ⟨y, Or.inl (by trivial)⟩)
      | exact FL110 (fun y => h113 ⟨y, Or.inl (by trivial)⟩)
      | exact FL101 (Classical.not_not.1 h104)
      | exact FL101 h104
    · skip
      simp only [bi_eq, bi_ne, Classical.not_not] at h113
      have P2 : τ110 38 10 = b + 3 := by have := (g110 h113.1 (Or.inl rfl)).1; omega
      refine ks_aload_n (n := 117) S dX5_readsStatement_116 rfl rfl ?_
      refine ks_iconst (n := 118) S dX5_readsStatement_117 rfl (by unfold iv; decide) ?_
      refine ks_iconst (n := 119) S dX5_readsStatement_118 rfl (by unfold iv; decide) ?_
      refine ks_v2z (n := 122) S dX5_readsStatement_119 rfl ml_X5_105 ym_X5_readsNumber (ev_X5_readsNumber (h.fr G110) P2 (by omega) (by omega) (Or.inl rfl)) (by decide) rfl (Nat.le_of_ble_eq_true rfl) (fun r119 τ119 q119 => ?_)
      obtain ⟨y119, F119, o119, g119, n119, p119⟩ := q119
      have y119 := kq_si y119
      subst y119
      have G119 := FrN.tr G110 F119
      have t3 := m_fdig (w := w) (n := n) (b := b) (j := b + 3) (k := 6) (by omega) (by omega)
      have FL119 : ¬ m_ig w n (b + 3) → _ := fun y => hN τ119 G119 (m_fl hk (by omega) (by omega) (n119 y) (m_q3 (t1.2 h104) (t2.2 h113.1)) (fun z => y (t3.1 z)))
      refine ks_if_eq (n := 125) (tgt := 138) S dX5_readsStatement_122 rfl rfl (fun h122 => ?_) (fun h122 => ?_)
      · skip
        simp only [bi_eq, bi_ne, Classical.not_not] at h122
        first
        | exact FL128 (fun y => h131 ⟨y, Or.inl (by trivial)⟩)
        | exact FL119 (fun y => h122 ⟨y, Or.inl (by trivial)⟩)
        | exact FL110 (fun y => h113 ⟨y, Or.inl (by trivial)⟩)
        | exact FL101 (Classical.not_not.1 h104)
        | exact FL101 h104
      · skip
        simp only [bi_eq, bi_ne, Classical.not_not] at h122
        have P3 : τ119 38 10 = b + 4 := by have := (g119 h122.1 (Or.inl rfl)).1; omega
        refine ks_aload_n (n := 126) S dX5_readsStatement_125 rfl rfl ?_
        refine ks_iconst (n := 127) S dX5_readsStatement_126 rfl (by unfold iv; decide) ?_
        refine ks_iconst (n := 128) S dX5_readsStatement_127 rfl (by unfold iv; decide) ?_
        refine ks_v2z (n := 131) S dX5_readsStatement_128 rfl ml_X5_105 ym_X5_readsNumber (ev_X5_readsNumber (h.fr G119) P3 (by omega) (by omega) (Or.inl rfl)) (by decide) rfl (Nat.le_of_ble_eq_true rfl) (fun r128 τ128 q128 => ?_)
        obtain ⟨y128, F128, o128, g128, n128, p128⟩ := q128
        have y128 := kq_si y128
        subst y128
        have G128 := FrN.tr G119 F128
        have t4 := m_fdig (w := w) (n := n) (b := b) (j := b + 4) (k := 6) (by omega) (by omega)
        have FL128 : ¬ m_ig w n (b + 4) → _ := fun y => hN τ128 G128 (m_fl hk (by omega) (by omega) (n128 y) (m_q4 (t1.2 h104) (t2.2 h113.1) (t3.2 h122.1)) (fun z => y (t4.1 z)))
        refine ks_if_eq (n := 134) (tgt := 138) S dX5_readsStatement_131 rfl rfl (fun h131 => ?_) (fun h131 => ?_)
        · skip
          simp only [bi_eq, bi_ne, Classical.not_not] at h131
          first
          | exact FL128 (fun y => h131 ⟨y, Or.inl (by trivial)⟩)
          | exact FL119 (fun y => h122 ⟨y, Or.inl (by trivial)⟩)
          | exact FL110 (fun y => h113 ⟨y, Or.inl (by trivial)⟩)
          | exact FL101 (Classical.not_not.1 h104)
          | exact FL101 h104
        · skip
          simp only [bi_eq, bi_ne, Classical.not_not] at h131
          refine ks_iconst (n := 135) S dX5_readsStatement_134 rfl (by unfold iv; decide) ?_
          refine ks_goto (n := 139) S dX5_readsStatement_135 rfl ?_
          refine ks_istore_n (n := 140) S dX5_readsStatement_139 rfl rfl (L' := fun yy => [some (kr 38), some (ki x), some (ki yy)]) (Nat.le_of_ble_eq_true rfl) (fun _ => rfl) (fun v2_139 hv139 => ?_)
          obtain rfl : v2_139 = 1 := by omega
          refine ks_goto (n := 238) S dX5_readsStatement_140 rfl ?_
          have a0 := o110 0 (by decide); have a1 := o119 0 (by decide); have a2 := o128 0 (by decide)
          have b1 := o119 1 (by decide); have b2 := o128 1 (by decide)
          have c2 := o128 2 (by decide)
          obtain ⟨-, r0⟩ := g101 h104
          obtain ⟨-, r1⟩ := g110 h113.1 (Or.inl rfl)
          obtain ⟨-, r2⟩ := g119 h122.1 (Or.inl rfl)
          obtain ⟨r4, r3⟩ := g128 h131.1 (Or.inl rfl)
          rw [if_pos rfl] at r1 r2 r3
          refine hJ.yes G128 hk (by omega) (by omega) (by omega) (m_q5 (t1.2 h104) (t2.2 h113.1) (t3.2 h122.1) (t4.2 h131.1)) ?_
          unfold m_NU m_x0 m_x1 m_x2 m_x3
          rw [if_pos hc, if_neg (show ¬ m_at w n b = 113 by omega), if_neg (show ¬ m_at w n b = 113 by omega), a2, a1, a0, r0, b2, b1, r1, c2, r2, r3]
          exact ⟨rfl, fun _ => rfl, fun _ => rfl, fun _ => rfl⟩
theorem rs_p (S : Sem l cX5_readsStatement yX5_readsStatement.cls (some .boolean) 2 45 Q K) (h : m_RT ρ w n) (P0 : ρ 38 10 = b + 1) (b0 : 0 ≤ b ∧ b ≤ 100) (hJ : RsJ K ρ w n b x) (hc : m_at w n b = 111 ∨ m_at w n b = 112) : K 143 [some (kr 38), some (ki x), none] [] ρ := by
  have G0 : FrN ρ ρ := FrN.rf
  have hk : m_ln (m_at w n b) = 4 := by unfold m_ln; (repeat' split) <;> omega
  refine kq_use (p := ∀ τ : KS, FrN ρ τ → (m_fp w n b ≠ -9 ∧ τ 38 10 = m_fp w n b) → K 165 [some (kr 38), some (ki x), none] [] τ) ?_ (fun hN => ?_)
  · intro τ G hz
    refine ks_iconst (n := 166) S dX5_readsStatement_165 rfl (by unfold iv; decide) ?_
    refine ks_istore_n (n := 167) S dX5_readsStatement_166 rfl rfl (L' := fun yy => [some (kr 38), some (ki x), some (ki yy)]) (Nat.le_of_ble_eq_true rfl) (fun _ => rfl) (fun v2_166 hv166 => ?_)
    obtain rfl : v2_166 = 0 := by omega
    refine ks_goto (n := 238) S dX5_readsStatement_167 rfl ?_
    exact hJ.no G hz
  refine ks_aload_n (n := 144) S dX5_readsStatement_143 rfl rfl ?_
  refine ks_iconst (n := 145) S dX5_readsStatement_144 rfl (by unfold iv; decide) ?_
  refine ks_iconst (n := 146) S dX5_readsStatement_145 rfl (by unfold iv; decide) ?_
  refine ks_v2z (n := 149) S dX5_readsStatement_146 rfl ml_X5_105 ym_X5_readsNumber (ev_X5_readsNumber (h.fr G0) P0 (by omega) (by omega) (Or.inl rfl)) (by decide) rfl (Nat.le_of_ble_eq_true rfl) (fun r146 τ146 q146 => ?_)
  obtain ⟨y146, F146, o146, g146, n146, p146⟩ := q146
  have y146 := kq_si y146
  subst y146
  have G146 := FrN.tr G0 F146
  have t1 := m_fdig (w := w) (n := n) (b := b) (j := b + 1) (k := 4) (by omega) (by omega)
  have FL146 : ¬ m_ig w n (b + 1) → _ := fun y => hN τ146 G146 (m_fl hk (by omega) (by omega) (n146 y) m_q1 (fun z => y (t1.1 z)))
  refine ks_if_eq (n := 152) (tgt := 165) S dX5_readsStatement_149 rfl rfl (fun h149 => ?_) (fun h149 => ?_)
  · skip
    simp only [bi_eq, bi_ne, Classical.not_not] at h149
    first
    | exact FL155 (fun y => h158 ⟨y, Or.inl (by trivial)⟩)
    | exact FL146 (fun y => h149 ⟨y, Or.inl (by trivial)⟩)
  · skip
    simp only [bi_eq, bi_ne, Classical.not_not] at h149
    have P1 : τ146 38 10 = b + 2 := by have := (g146 h149.1 (Or.inl rfl)).1; omega
    refine ks_aload_n (n := 153) S dX5_readsStatement_152 rfl rfl ?_
    refine ks_iconst (n := 154) S dX5_readsStatement_153 rfl (by unfold iv; decide) ?_
    refine ks_iconst (n := 155) S dX5_readsStatement_154 rfl (by unfold iv; decide) ?_
    refine ks_v2z (n := 158) S dX5_readsStatement_155 rfl ml_X5_105 ym_X5_readsNumber (ev_X5_readsNumber (h.fr G146) P1 (by omega) (by omega) (Or.inl rfl)) (by decide) rfl (Nat.le_of_ble_eq_true rfl) (fun r155 τ155 q155 => ?_)
    obtain ⟨y155, F155, o155, g155, n155, p155⟩ := q155
    have y155 := kq_si y155
    subst y155
    have G155 := FrN.tr G146 F155
    have t2 := m_fdig (w := w) (n := n) (b := b) (j := b + 2) (k := 4) (by omega) (by omega)
    have FL155 : ¬ m_ig w n (b + 2) → _ := fun y => hN τ155 G155 (m_fl hk (by omega) (by omega) (n155 y) (m_q2 (t1.2 h149.1)) (fun z => y (t2.1 z)))
    refine ks_if_eq (n := 161) (tgt := 165) S dX5_readsStatement_158 rfl rfl (fun h158 => ?_) (fun h158 => ?_)
    · skip
      simp only [bi_eq, bi_ne, Classical.not_not] at h158
      first
      | exact FL155 (fun y => h158 ⟨y, Or.inl (by trivial)⟩)
      | exact FL146 (fun y => h149 ⟨y, Or.inl (by trivial)⟩)
    · skip
      simp only [bi_eq, bi_ne, Classical.not_not] at h158
      refine ks_iconst (n := 162) S dX5_readsStatement_161 rfl (by unfold iv; decide) ?_
      refine ks_goto (n := 166) S dX5_readsStatement_162 rfl ?_
      refine ks_istore_n (n := 167) S dX5_readsStatement_166 rfl rfl (L' := fun yy => [some (kr 38), some (ki x), some (ki yy)]) (Nat.le_of_ble_eq_true rfl) (fun _ => rfl) (fun v2_166 hv166 => ?_)
      obtain rfl : v2_166 = 1 := by omega
      refine ks_goto (n := 238) S dX5_readsStatement_167 rfl ?_
      have a0 := o155 0 (by decide)
      obtain ⟨-, r1⟩ := g146 h149.1 (Or.inl rfl)
      obtain ⟨r4, r2⟩ := g155 h158.1 (Or.inl rfl)
      rw [if_pos rfl] at r1 r2
      refine hJ.yes G155 hk (by omega) (by omega) (by omega) (m_q3 (t1.2 h149.1) (t2.2 h158.1)) ?_
      unfold m_NU m_x0 m_x1
      rw [if_neg (show ¬ m_at w n b = 100 by omega), if_neg (show ¬ m_at w n b = 104 by omega), if_neg (show ¬ m_at w n b = 113 by omega), a0, r1, r2]
      exact ⟨rfl, fun _ => rfl, fun y => by omega, fun y => by omega⟩
theorem rs_q (S : Sem l cX5_readsStatement yX5_readsStatement.cls (some .boolean) 2 45 Q K) (h : m_RT ρ w n) (P0 : ρ 38 10 = b + 1) (b0 : 0 ≤ b ∧ b ≤ 100) (hJ : RsJ K ρ w n b x) (hc : m_at w n b = 113) : K 170 [some (kr 38), some (ki x), none] [] ρ := by
  have G0 : FrN ρ ρ := FrN.rf
  have hk : m_ln (m_at w n b) = 6 := by unfold m_ln; (repeat' split) <;> omega
  refine kq_use (p := ∀ τ : KS, FrN ρ τ → (m_fp w n b ≠ -9 ∧ τ 38 10 = m_fp w n b) → K 201 [some (kr 38), some (ki x), none] [] τ) ?_ (fun hN => ?_)
  · intro τ G hz
    refine ks_iconst (n := 202) S dX5_readsStatement_201 rfl (by unfold iv; decide) ?_
    refine ks_istore_n (n := 203) S dX5_readsStatement_202 rfl rfl (L' := fun yy => [some (kr 38), some (ki x), some (ki yy)]) (Nat.le_of_ble_eq_true rfl) (fun _ => rfl) (fun v2_202 hv202 => ?_)
    obtain rfl : v2_202 = 0 := by omega
    refine ks_goto (n := 238) S dX5_readsStatement_203 rfl ?_
    exact hJ.no G hz
  refine ks_aload_n (n := 171) S dX5_readsStatement_170 rfl rfl ?_
  refine ks_iconst (n := 172) S dX5_readsStatement_171 rfl (by unfold iv; decide) ?_
  refine ks_iconst (n := 173) S dX5_readsStatement_172 rfl (by unfold iv; decide) ?_
  refine ks_v2z (n := 176) S dX5_readsStatement_173 rfl ml_X5_105 ym_X5_readsNumber (ev_X5_readsNumber (h.fr G0) P0 (by omega) (by omega) (Or.inl rfl)) (by decide) rfl (Nat.le_of_ble_eq_true rfl) (fun r173 τ173 q173 => ?_)
  obtain ⟨y173, F173, o173, g173, n173, p173⟩ := q173
  have y173 := kq_si y173
  subst y173
  have G173 := FrN.tr G0 F173
  have t1 := m_fdig (w := w) (n := n) (b := b) (j := b + 1) (k := 6) (by omega) (by omega)
  have FL173 : ¬ m_ig w n (b + 1) → _ := fun y => hN τ173 G173 (m_fl hk (by omega) (by omega) (n173 y) m_q1 (fun z => y (t1.1 z)))
  refine ks_if_eq (n := 179) (tgt := 201) S dX5_readsStatement_176 rfl rfl (fun h176 => ?_) (fun h176 => ?_)
  · skip
    simp only [bi_eq, bi_ne, Classical.not_not] at h176
    first
    | exact FL191 (fun y => h194 ⟨y, Or.inl (by trivial)⟩)
    | (rw [e3] at h185; exact FL182 (by omega))
    | exact FL173 (fun y => h176 ⟨y, Or.inl (by trivial)⟩)
  · skip
    simp only [bi_eq, bi_ne, Classical.not_not] at h176
    have P1 : τ173 38 10 = b + 2 := by have := (g173 h176.1 (Or.inl rfl)).1; omega
    refine ks_aload_n (n := 180) S dX5_readsStatement_179 rfl rfl ?_
    refine ks_iconst (n := 181) S dX5_readsStatement_180 rfl (by unfold iv; decide) ?_
    refine ks_iconst (n := 182) S dX5_readsStatement_181 rfl (by unfold iv; decide) ?_
    refine ks_v2z (n := 185) S dX5_readsStatement_182 rfl ml_X5_105 ym_X5_readsNumber (ev_X5_readsNumber (h.fr G173) P1 (by omega) (by omega) (Or.inr rfl)) (by decide) rfl (Nat.le_of_ble_eq_true rfl) (fun r182 τ182 q182 => ?_)
    obtain ⟨y182, F182, o182, g182, n182, p182⟩ := q182
    have y182 := kq_si y182
    subst y182
    have G182 := FrN.tr G173 F182
    have e3 : b + 2 + 1 = b + 3 := by omega
    rw [e3] at g182 p182
    have t2 := m_fdig (w := w) (n := n) (b := b) (j := b + 2) (k := 6) (by omega) (by omega)
    have t3 := m_fdig (w := w) (n := n) (b := b) (j := b + 3) (k := 6) (by omega) (by omega)
    have FL182 : ¬ (m_ig w n (b + 2) ∧ ((2 : Int) = 1 ∨ m_ig w n (b + 3))) → K 201 [some (kr 38), some (ki x), none] [] τ182 := fun y => by
      by_cases hz : m_ig w n (b + 2)
      · have hy : ¬ ((2 : Int) = 1 ∨ m_ig w n (b + 3)) := fun z => y ⟨hz, z⟩
        exact hN τ182 G182 (m_fl hk (by omega) (by omega) (p182 hz hy) (m_q3 (t1.2 h176.1) (t2.2 hz)) (fun z => hy (Or.inr (t3.1 z))))
      · exact hN τ182 G182 (m_fl hk (by omega) (by omega) (n182 hz) (m_q2 (t1.2 h176.1)) (fun z => hz (t2.1 z)))
    refine ks_if_eq (n := 188) (tgt := 201) S dX5_readsStatement_185 rfl rfl (fun h185 => ?_) (fun h185 => ?_)
    · skip
      simp only [bi_eq, bi_ne, Classical.not_not] at h185
      first
      | exact FL191 (fun y => h194 ⟨y, Or.inl (by trivial)⟩)
      | (rw [e3] at h185; exact FL182 (by omega))
      | exact FL173 (fun y => h176 ⟨y, Or.inl (by trivial)⟩)
    · skip
      simp only [bi_eq, bi_ne, Classical.not_not] at h185
      rw [e3] at h185
      have h3 : m_ig w n (b + 3) := by omega
      have P2 : τ182 38 10 = b + 4 := by have := (g182 h185.1 (Or.inr h3)).1; omega
      refine ks_aload_n (n := 189) S dX5_readsStatement_188 rfl rfl ?_
      refine ks_iconst (n := 190) S dX5_readsStatement_189 rfl (by unfold iv; decide) ?_
      refine ks_iconst (n := 191) S dX5_readsStatement_190 rfl (by unfold iv; decide) ?_
      refine ks_v2z (n := 194) S dX5_readsStatement_191 rfl ml_X5_105 ym_X5_readsNumber (ev_X5_readsNumber (h.fr G182) P2 (by omega) (by omega) (Or.inl rfl)) (by decide) rfl (Nat.le_of_ble_eq_true rfl) (fun r191 τ191 q191 => ?_)
      obtain ⟨y191, F191, o191, g191, n191, p191⟩ := q191
      have y191 := kq_si y191
      subst y191
      have G191 := FrN.tr G182 F191
      have t4 := m_fdig (w := w) (n := n) (b := b) (j := b + 4) (k := 6) (by omega) (by omega)
      have FL191 : ¬ m_ig w n (b + 4) → _ := fun y => hN τ191 G191 (m_fl hk (by omega) (by omega) (n191 y) (m_q4 (t1.2 h176.1) (t2.2 h185.1) (t3.2 h3)) (fun z => y (t4.1 z)))
      refine ks_if_eq (n := 197) (tgt := 201) S dX5_readsStatement_194 rfl rfl (fun h194 => ?_) (fun h194 => ?_)
      · skip
        simp only [bi_eq, bi_ne, Classical.not_not] at h194
        first
        | exact FL191 (fun y => h194 ⟨y, Or.inl (by trivial)⟩)
        | (rw [e3] at h185; exact FL182 (by omega))
        | exact FL173 (fun y => h176 ⟨y, Or.inl (by trivial)⟩)
      · skip
        simp only [bi_eq, bi_ne, Classical.not_not] at h194
        refine ks_iconst (n := 198) S dX5_readsStatement_197 rfl (by unfold iv; decide) ?_
        refine ks_goto (n := 202) S dX5_readsStatement_198 rfl ?_
        refine ks_istore_n (n := 203) S dX5_readsStatement_202 rfl rfl (L' := fun yy => [some (kr 38), some (ki x), some (ki yy)]) (Nat.le_of_ble_eq_true rfl) (fun _ => rfl) (fun v2_202 hv202 => ?_)
        obtain rfl : v2_202 = 1 := by omega
        refine ks_goto (n := 238) S dX5_readsStatement_203 rfl ?_
        have a0 := o182 0 (by decide); have a1 := o191 0 (by decide); have b1 := o191 1 (by decide)
        obtain ⟨-, r1⟩ := g173 h176.1 (Or.inl rfl)
        obtain ⟨-, r2⟩ := g182 h185.1 (Or.inr h3)
        obtain ⟨r4, r3⟩ := g191 h194.1 (Or.inl rfl)
        rw [if_pos rfl] at r1 r3
        rw [if_neg (by decide)] at r2
        refine hJ.yes G191 hk (by omega) (by omega) (by omega) (m_q5 (t1.2 h176.1) (t2.2 h185.1) (t3.2 h3) (t4.2 h194.1)) ?_
        unfold m_NU m_x0 m_x1 m_x2
        rw [if_neg (show ¬ m_at w n b = 100 by omega), if_neg (show ¬ m_at w n b = 104 by omega), if_pos hc, if_pos hc, a1, a0, r1, b1, r2, r3]
        exact ⟨rfl, fun _ => rfl, fun _ => rfl, fun y => by omega⟩
theorem rs_a (S : Sem l cX5_readsStatement yX5_readsStatement.cls (some .boolean) 2 45 Q K) (h : m_RT ρ w n) (P0 : ρ 38 10 = b + 1) (b0 : 0 ≤ b ∧ b ≤ 100) (hJ : RsJ K ρ w n b x) (hc : m_at w n b = 97) : K 206 [some (kr 38), some (ki x), none] [] ρ := by
  have G0 : FrN ρ ρ := FrN.rf
  have hk : m_ln (m_at w n b) = 3 := by unfold m_ln; (repeat' split) <;> omega
  refine ks_aload_n (n := 207) S dX5_readsStatement_206 rfl rfl ?_
  refine ks_iconst (n := 208) S dX5_readsStatement_207 rfl (by unfold iv; decide) ?_
  refine ks_iconst (n := 209) S dX5_readsStatement_208 rfl (by unfold iv; decide) ?_
  refine ks_v2z (n := 212) S dX5_readsStatement_209 rfl ml_X5_105 ym_X5_readsNumber (ev_X5_readsNumber (h.fr G0) P0 (by omega) (by omega) (Or.inl rfl)) (by decide) rfl (Nat.le_of_ble_eq_true rfl) (fun r209 τ209 q209 => ?_)
  obtain ⟨y209, F209, o209, g209, n209, p209⟩ := q209
  have y209 := kq_si y209
  subst y209
  have G209 := FrN.tr G0 F209
  have t1 := m_fdig (w := w) (n := n) (b := b) (j := b + 1) (k := 3) (by omega) (by omega)
  refine ks_istore_n (n := 213) S dX5_readsStatement_212 rfl rfl (L' := fun yy => [some (kr 38), some (ki x), some (ki yy)]) (Nat.le_of_ble_eq_true rfl) (fun _ => rfl) (fun v2_212 hv212 => ?_)
  subst v2_212
  refine ks_goto (n := 238) S dX5_readsStatement_213 rfl ?_
  by_cases hz : m_ig w n (b + 1)
  · rw [bi_t ⟨hz, Or.inl rfl⟩]
    obtain ⟨r4, r1⟩ := g209 hz (Or.inl rfl)
    rw [if_pos rfl] at r1
    refine hJ.yes G209 hk (by omega) (by omega) (by omega) (m_q2 (t1.2 hz)) ?_
    unfold m_NU m_x0
    rw [if_neg (show ¬ m_at w n b = 100 by omega), if_neg (show ¬ m_at w n b = 104 by omega), r1]
    exact ⟨rfl, fun y => by omega, fun y => by omega, fun y => by omega⟩
  · rw [bi_f (fun y => hz y.1)]
    exact hJ.no G209 (m_fl hk (by omega) (by omega) (n209 hz) m_q1 (fun z => hz (t1.1 z)))
theorem rs_h (S : Sem l cX5_readsStatement yX5_readsStatement.cls (some .boolean) 2 45 Q K) (h : m_RT ρ w n) (P0 : ρ 38 10 = b + 1) (b0 : 0 ≤ b ∧ b ≤ 100) (hJ : RsJ K ρ w n b x) (hc : m_at w n b = 104) : K 216 [some (kr 38), some (ki x), none] [] ρ := by
  have G0 : FrN ρ ρ := FrN.rf
  have hk : m_ln (m_at w n b) = 4 := by unfold m_ln; (repeat' split) <;> omega
  refine ks_aload_n (n := 217) S dX5_readsStatement_216 rfl rfl ?_
  refine ks_iconst (n := 218) S dX5_readsStatement_217 rfl (by unfold iv; decide) ?_
  refine ks_iconst (n := 219) S dX5_readsStatement_218 rfl (by unfold iv; decide) ?_
  refine ks_v2z (n := 222) S dX5_readsStatement_219 rfl ml_X5_105 ym_X5_readsNumber (ev_X5_readsNumber (h.fr G0) P0 (by omega) (by omega) (Or.inr rfl)) (by decide) rfl (Nat.le_of_ble_eq_true rfl) (fun r219 τ219 q219 => ?_)
  obtain ⟨y219, F219, o219, g219, n219, p219⟩ := q219
  have y219 := kq_si y219
  subst y219
  have G219 := FrN.tr G0 F219
  have e2 : b + 1 + 1 = b + 2 := by omega
  rw [e2] at g219 p219
  have t1 := m_fdig (w := w) (n := n) (b := b) (j := b + 1) (k := 4) (by omega) (by omega)
  have t2 := m_fdig (w := w) (n := n) (b := b) (j := b + 2) (k := 4) (by omega) (by omega)
  refine ks_istore_n (n := 223) S dX5_readsStatement_222 rfl rfl (L' := fun yy => [some (kr 38), some (ki x), some (ki yy)]) (Nat.le_of_ble_eq_true rfl) (fun _ => rfl) (fun v2_222 hv222 => ?_)
  subst v2_222
  refine ks_goto (n := 238) S dX5_readsStatement_223 rfl ?_
  by_cases hz : m_ig w n (b + 1)
  · by_cases hy : m_ig w n (b + 2)
    · rw [bi_t ⟨hz, Or.inr (by rw [e2]; exact hy)⟩]
      obtain ⟨r4, r1⟩ := g219 hz (Or.inr hy)
      rw [if_neg (by decide)] at r1
      refine hJ.yes G219 hk (by omega) (by omega) (by omega) (m_q3 (t1.2 hz) (t2.2 hy)) ?_
      unfold m_NU m_x0
      rw [if_neg (show ¬ m_at w n b = 100 by omega), if_pos hc, r1]
      exact ⟨rfl, fun y => by omega, fun y => by omega, fun y => by omega⟩
    · have hx : ¬ ((2 : Int) = 1 ∨ m_ig w n (b + 2)) := fun z => by
        rcases z with z | z
        · exact absurd z (by decide)
        · exact hy z
      rw [bi_f (fun y => hx (by rw [← e2]; exact y.2))]
      exact hJ.no G219 (m_fl hk (by omega) (by omega) (p219 hz hx) (m_q2 (t1.2 hz)) (fun z => hy (t2.1 z)))
  · rw [bi_f (fun y => hz y.1)]
    exact hJ.no G219 (m_fl hk (by omega) (by omega) (n219 hz) m_q1 (fun z => hz (t1.1 z)))
theorem ev_X5_readsStatement (h : m_RT σ w n) (hb : σ 38 10 = b) (b0 : 0 ≤ b ∧ b ≤ 100) : Ev l yX5_readsStatement cX5_readsStatement 3 (some .boolean) 2 45 [kr 38] σ (fun r τ => r = some (ki (bi (m_fp w n b = -9))) ∧ FrN σ τ ∧ (m_fp w n b = -9 → τ 38 10 = b + m_ln (m_at w n b) ∧ m_NU τ w n b) ∧ (m_fp w n b ≠ -9 → τ 38 10 = m_fp w n b)) := by
  have hh := m_hr_at (w := w) (n := n) (j := b) (by omega)
  have hlb := m_ln_b (v := m_at w n b)
  have G0 : FrN σ (kq_up σ 38 10 (b + 1)) := FrN.rf.pl
  have P0 : kq_up σ 38 10 (b + 1) 38 10 = b + 1 := kq_up_s
  refine ev_intro ym_X5_readsStatement.1 (Nat.le_of_ble_eq_true rfl) (fun hv hσ K S => ?_)
  have hv := hv
  show K 0 [some (kr 38), none, none] [] σ
  refine kq_use (p := RsJ K (kq_up σ 38 10 (b + 1)) w n b (m_hr w n b)) ?_ (fun hJ => ?_)
  · intro τ v hF hv01 hv1 hv0
    replace hF := G0.tr hF
    have h2 := m_hr_at (w := w) (n := n) (j := b + m_ln (m_at w n b) - 1)
    refine ks_iload_n (n := 239) S dX5_readsStatement_238 rfl rfl ?_
    refine ks_if_eq (n := 242) (tgt := 251) S dX5_readsStatement_239 rfl rfl (fun h239 => ?_) (fun h239 => ?_)
    · skip
      refine ks_iconst (n := 252) S dX5_readsStatement_251 rfl (by unfold iv; decide) ?_
      refine ks_zret S dX5_readsStatement_252 (by first | exact Or.inl rfl | exact Or.inr rfl | exact bi_01) ?_
      first
      | (have hz := hv0 (by omega); exact ⟨by rw [bi_f hz.1], hF, fun y => absurd y hz.1, fun _ => hz.2⟩)
      | (have hz := m_fl (τ := τ) rfl (by omega) (by omega) g2 g3 (by omega); exact ⟨by rw [bi_f hz.1], hF, fun y => absurd y hz.1, fun _ => hz.2⟩)
    · skip
      obtain ⟨g1, g2, g3, g4⟩ := hv1 (by omega)
      have h2 := h2 (by omega)
      refine ks_aload_n (n := 243) S dX5_readsStatement_242 rfl rfl ?_
      refine kf_v0i (n := 246) S dX5_readsStatement_243 rfl ml_X5_94 ym_X5_here (ev_X5_here (h.fr hF) g2 (by omega)) (by decide) rfl (Nat.le_of_ble_eq_true rfl) ?_
      refine ks_bipush (n := 248) S dX5_readsStatement_246 rfl (by unfold iv; decide) ?_
      refine ks_icmp_eq (n := 251) (tgt := 253) S dX5_readsStatement_248 rfl rfl (fun h248 => ?_) (fun h248 => ?_)
      · skip
        refine ks_aload_n (n := 254) S dX5_readsStatement_253 rfl rfl ?_
        refine ks_dup (n := 255) S dX5_readsStatement_254 rfl rfl ?_
        refine ks_getI (n := 258) (fi := 10) S dX5_readsStatement_255 rfl fl_X5_91 rfl rfl rfl ?_
        rw [g2]
        refine ks_iconst (n := 259) S dX5_readsStatement_258 rfl (by unfold iv; decide) ?_
        refine ks_iadd (n := 260) S dX5_readsStatement_259 rfl (by omega) ?_
        refine ks_putI (n := 263) (fi := 10) S dX5_readsStatement_260 rfl fw_X5_91 rfl rfl (Or.inl rfl) rfl ?_
        refine ks_iconst (n := 264) S dX5_readsStatement_263 rfl (by unfold iv; decide) ?_
        refine ks_zret S dX5_readsStatement_264 (by first | exact Or.inl rfl | exact Or.inr rfl | exact bi_01) ?_
        have hz := m_fp_ok (w := w) (n := n) (b := b) rfl (by omega) (fun j' y1 y2 => by
          by_cases hj : j' = b + m_ln (m_at w n b) - 1
          · subst hj; omega
          · exact g3 j' y1 (by omega))
        refine ⟨by rw [bi_t hz], hF.pl, fun _ => ⟨by rw [kq_up_s]; omega, ?_⟩, fun y => absurd hz y⟩
        unfold m_NU
        simp only [kq_up_c (show (46 : Nat) ≠ 38 by decide)]
        exact g4
      · skip
        refine ks_iconst (n := 252) S dX5_readsStatement_251 rfl (by unfold iv; decide) ?_
        refine ks_zret S dX5_readsStatement_252 (by first | exact Or.inl rfl | exact Or.inr rfl | exact bi_01) ?_
        first
        | (have hz := hv0 (by omega); exact ⟨by rw [bi_f hz.1], hF, fun y => absurd y hz.1, fun _ => hz.2⟩)
        | (have hz := m_fl (τ := τ) rfl (by omega) (by omega) g2 g3 (by omega); exact ⟨by rw [bi_f hz.1], hF, fun y => absurd y hz.1, fun _ => hz.2⟩)
  refine ks_aload_n (n := 1) S dX5_readsStatement_0 rfl rfl ?_
  refine kf_v0i (n := 4) S dX5_readsStatement_1 rfl ml_X5_94 ym_X5_here (ev_X5_here h hb (by omega)) (by decide) rfl (Nat.le_of_ble_eq_true rfl) ?_
  refine ks_istore_n (n := 5) S dX5_readsStatement_4 rfl rfl (L' := fun yy => [some (kr 38), some (ki yy), none]) (Nat.le_of_ble_eq_true rfl) (fun _ => rfl) (fun v1_4 hv4 => ?_)
  subst v1_4
  refine ks_aload_n (n := 6) S dX5_readsStatement_5 rfl rfl ?_
  refine ks_dup (n := 7) S dX5_readsStatement_6 rfl rfl ?_
  refine ks_getI (n := 10) (fi := 10) S dX5_readsStatement_7 rfl fl_X5_91 rfl rfl rfl ?_
  rw [hb]
  refine ks_iconst (n := 11) S dX5_readsStatement_10 rfl (by unfold iv; decide) ?_
  refine ks_iadd (n := 12) S dX5_readsStatement_11 rfl (by omega) ?_
  refine ks_putI (n := 15) (fi := 10) S dX5_readsStatement_12 rfl fw_X5_91 rfl rfl (Or.inl rfl) rfl ?_
  refine ks_iload_n (n := 16) S dX5_readsStatement_15 rfl rfl ?_
  refine ks_table S (tdf := 226) [206, 226, 226, 100, 226, 226, 226, 216, 226, 226, 226, 226, 226, 226, 143, 143, 170] dX5_readsStatement_16 (by decide) (by decide) rfl (fun h16 => ?_) (And.intro (fun h16 => ?_) (And.intro (fun h16 => ?_) (And.intro (fun h16 => ?_) (And.intro (fun h16 => ?_) (And.intro (fun h16 => ?_) (And.intro (fun h16 => ?_) (And.intro (fun h16 => ?_) (And.intro (fun h16 => ?_) (And.intro (fun h16 => ?_) (And.intro (fun h16 => ?_) (And.intro (fun h16 => ?_) (And.intro (fun h16 => ?_) (And.intro (fun h16 => ?_) (And.intro (fun h16 => ?_) (And.intro (fun h16 => ?_) (And.intro (fun h16 => ?_) (And.intro (fun h16 => ?_) trivial)))))))))))))))))
  · skip
    refine ks_aload_n (n := 227) S dX5_readsStatement_226 rfl rfl ?_
    refine ks_dup (n := 228) S dX5_readsStatement_227 rfl rfl ?_
    refine ks_getI (n := 231) (fi := 10) S dX5_readsStatement_228 rfl fl_X5_91 rfl rfl rfl ?_
    rw [P0]
    refine ks_iconst (n := 232) S dX5_readsStatement_231 rfl (by unfold iv; decide) ?_
    refine ks_isub (n := 233) S dX5_readsStatement_232 rfl (by omega) ?_
    refine ks_putI (n := 236) (fi := 10) S dX5_readsStatement_233 rfl fw_X5_91 rfl rfl (Or.inl rfl) rfl ?_
    refine ks_iconst (n := 237) S dX5_readsStatement_236 rfl (by unfold iv; decide) ?_
    refine ks_zret S dX5_readsStatement_237 (by first | exact Or.inl rfl | exact Or.inr rfl | exact bi_01) ?_
    have hk : m_ln (m_at w n b) = 0 := by unfold m_ln; (repeat' split) <;> omega
    have hz := m_fp_z hk
    exact ⟨by rw [bi_f (by omega)], FrN.rf.pl.pl, fun y => by omega, fun _ => by rw [kq_up_s]; omega⟩
  · skip
    exact rs_a S (h.fr G0) P0 b0 hJ (by omega)
  · skip
    refine ks_aload_n (n := 227) S dX5_readsStatement_226 rfl rfl ?_
    refine ks_dup (n := 228) S dX5_readsStatement_227 rfl rfl ?_
    refine ks_getI (n := 231) (fi := 10) S dX5_readsStatement_228 rfl fl_X5_91 rfl rfl rfl ?_
    rw [P0]
    refine ks_iconst (n := 232) S dX5_readsStatement_231 rfl (by unfold iv; decide) ?_
    refine ks_isub (n := 233) S dX5_readsStatement_232 rfl (by omega) ?_
    refine ks_putI (n := 236) (fi := 10) S dX5_readsStatement_233 rfl fw_X5_91 rfl rfl (Or.inl rfl) rfl ?_
    refine ks_iconst (n := 237) S dX5_readsStatement_236 rfl (by unfold iv; decide) ?_
    refine ks_zret S dX5_readsStatement_237 (by first | exact Or.inl rfl | exact Or.inr rfl | exact bi_01) ?_
    have hk : m_ln (m_at w n b) = 0 := by unfold m_ln; (repeat' split) <;> omega
    have hz := m_fp_z hk
    exact ⟨by rw [bi_f (by omega)], FrN.rf.pl.pl, fun y => by omega, fun _ => by rw [kq_up_s]; omega⟩
  · skip
    refine ks_aload_n (n := 227) S dX5_readsStatement_226 rfl rfl ?_
    refine ks_dup (n := 228) S dX5_readsStatement_227 rfl rfl ?_
    refine ks_getI (n := 231) (fi := 10) S dX5_readsStatement_228 rfl fl_X5_91 rfl rfl rfl ?_
    rw [P0]
    refine ks_iconst (n := 232) S dX5_readsStatement_231 rfl (by unfold iv; decide) ?_
    refine ks_isub (n := 233) S dX5_readsStatement_232 rfl (by omega) ?_
    refine ks_putI (n := 236) (fi := 10) S dX5_readsStatement_233 rfl fw_X5_91 rfl rfl (Or.inl rfl) rfl ?_
    refine ks_iconst (n := 237) S dX5_readsStatement_236 rfl (by unfold iv; decide) ?_
    refine ks_zret S dX5_readsStatement_237 (by first | exact Or.inl rfl | exact Or.inr rfl | exact bi_01) ?_
    have hk : m_ln (m_at w n b) = 0 := by unfold m_ln; (repeat' split) <;> omega
    have hz := m_fp_z hk
    exact ⟨by rw [bi_f (by omega)], FrN.rf.pl.pl, fun y => by omega, fun _ => by rw [kq_up_s]; omega⟩
  · skip
    exact rs_d S (h.fr G0) P0 b0 hJ (by omega)
  · skip
    refine ks_aload_n (n := 227) S dX5_readsStatement_226 rfl rfl ?_
    refine ks_dup (n := 228) S dX5_readsStatement_227 rfl rfl ?_
    refine ks_getI (n := 231) (fi := 10) S dX5_readsStatement_228 rfl fl_X5_91 rfl rfl rfl ?_
    rw [P0]
    refine ks_iconst (n := 232) S dX5_readsStatement_231 rfl (by unfold iv; decide) ?_
    refine ks_isub (n := 233) S dX5_readsStatement_232 rfl (by omega) ?_
    refine ks_putI (n := 236) (fi := 10) S dX5_readsStatement_233 rfl fw_X5_91 rfl rfl (Or.inl rfl) rfl ?_
    refine ks_iconst (n := 237) S dX5_readsStatement_236 rfl (by unfold iv; decide) ?_
    refine ks_zret S dX5_readsStatement_237 (by first | exact Or.inl rfl | exact Or.inr rfl | exact bi_01) ?_
    have hk : m_ln (m_at w n b) = 0 := by unfold m_ln; (repeat' split) <;> omega
    have hz := m_fp_z hk
    exact ⟨by rw [bi_f (by omega)], FrN.rf.pl.pl, fun y => by omega, fun _ => by rw [kq_up_s]; omega⟩
  · skip
    refine ks_aload_n (n := 227) S dX5_readsStatement_226 rfl rfl ?_
    refine ks_dup (n := 228) S dX5_readsStatement_227 rfl rfl ?_
    refine ks_getI (n := 231) (fi := 10) S dX5_readsStatement_228 rfl fl_X5_91 rfl rfl rfl ?_
    rw [P0]
    refine ks_iconst (n := 232) S dX5_readsStatement_231 rfl (by unfold iv; decide) ?_
    refine ks_isub (n := 233) S dX5_readsStatement_232 rfl (by omega) ?_
    refine ks_putI (n := 236) (fi := 10) S dX5_readsStatement_233 rfl fw_X5_91 rfl rfl (Or.inl rfl) rfl ?_
    refine ks_iconst (n := 237) S dX5_readsStatement_236 rfl (by unfold iv; decide) ?_
    refine ks_zret S dX5_readsStatement_237 (by first | exact Or.inl rfl | exact Or.inr rfl | exact bi_01) ?_
    have hk : m_ln (m_at w n b) = 0 := by unfold m_ln; (repeat' split) <;> omega
    have hz := m_fp_z hk
    exact ⟨by rw [bi_f (by omega)], FrN.rf.pl.pl, fun y => by omega, fun _ => by rw [kq_up_s]; omega⟩
  · skip
    refine ks_aload_n (n := 227) S dX5_readsStatement_226 rfl rfl ?_
    refine ks_dup (n := 228) S dX5_readsStatement_227 rfl rfl ?_
    refine ks_getI (n := 231) (fi := 10) S dX5_readsStatement_228 rfl fl_X5_91 rfl rfl rfl ?_
    rw [P0]
    refine ks_iconst (n := 232) S dX5_readsStatement_231 rfl (by unfold iv; decide) ?_
    refine ks_isub (n := 233) S dX5_readsStatement_232 rfl (by omega) ?_
    refine ks_putI (n := 236) (fi := 10) S dX5_readsStatement_233 rfl fw_X5_91 rfl rfl (Or.inl rfl) rfl ?_
    refine ks_iconst (n := 237) S dX5_readsStatement_236 rfl (by unfold iv; decide) ?_
    refine ks_zret S dX5_readsStatement_237 (by first | exact Or.inl rfl | exact Or.inr rfl | exact bi_01) ?_
    have hk : m_ln (m_at w n b) = 0 := by unfold m_ln; (repeat' split) <;> omega
    have hz := m_fp_z hk
    exact ⟨by rw [bi_f (by omega)], FrN.rf.pl.pl, fun y => by omega, fun _ => by rw [kq_up_s]; omega⟩
  · skip
    exact rs_h S (h.fr G0) P0 b0 hJ (by omega)
  · skip
    refine ks_aload_n (n := 227) S dX5_readsStatement_226 rfl rfl ?_
    refine ks_dup (n := 228) S dX5_readsStatement_227 rfl rfl ?_
    refine ks_getI (n := 231) (fi := 10) S dX5_readsStatement_228 rfl fl_X5_91 rfl rfl rfl ?_
    rw [P0]
    refine ks_iconst (n := 232) S dX5_readsStatement_231 rfl (by unfold iv; decide) ?_
    refine ks_isub (n := 233) S dX5_readsStatement_232 rfl (by omega) ?_
    refine ks_putI (n := 236) (fi := 10) S dX5_readsStatement_233 rfl fw_X5_91 rfl rfl (Or.inl rfl) rfl ?_
    refine ks_iconst (n := 237) S dX5_readsStatement_236 rfl (by unfold iv; decide) ?_
    refine ks_zret S dX5_readsStatement_237 (by first | exact Or.inl rfl | exact Or.inr rfl | exact bi_01) ?_
    have hk : m_ln (m_at w n b) = 0 := by unfold m_ln; (repeat' split) <;> omega
    have hz := m_fp_z hk
    exact ⟨by rw [bi_f (by omega)], FrN.rf.pl.pl, fun y => by omega, fun _ => by rw [kq_up_s]; omega⟩
  · skip
    refine ks_aload_n (n := 227) S dX5_readsStatement_226 rfl rfl ?_
    refine ks_dup (n := 228) S dX5_readsStatement_227 rfl rfl ?_
    refine ks_getI (n := 231) (fi := 10) S dX5_readsStatement_228 rfl fl_X5_91 rfl rfl rfl ?_
    rw [P0]
    refine ks_iconst (n := 232) S dX5_readsStatement_231 rfl (by unfold iv; decide) ?_
    refine ks_isub (n := 233) S dX5_readsStatement_232 rfl (by omega) ?_
    refine ks_putI (n := 236) (fi := 10) S dX5_readsStatement_233 rfl fw_X5_91 rfl rfl (Or.inl rfl) rfl ?_
    refine ks_iconst (n := 237) S dX5_readsStatement_236 rfl (by unfold iv; decide) ?_
    refine ks_zret S dX5_readsStatement_237 (by first | exact Or.inl rfl | exact Or.inr rfl | exact bi_01) ?_
    have hk : m_ln (m_at w n b) = 0 := by unfold m_ln; (repeat' split) <;> omega
    have hz := m_fp_z hk
    exact ⟨by rw [bi_f (by omega)], FrN.rf.pl.pl, fun y => by omega, fun _ => by rw [kq_up_s]; omega⟩
  · skip
    refine ks_aload_n (n := 227) S dX5_readsStatement_226 rfl rfl ?_
    refine ks_dup (n := 228) S dX5_readsStatement_227 rfl rfl ?_
    refine ks_getI (n := 231) (fi := 10) S dX5_readsStatement_228 rfl fl_X5_91 rfl rfl rfl ?_
    rw [P0]
    refine ks_iconst (n := 232) S dX5_readsStatement_231 rfl (by unfold iv; decide) ?_
    refine ks_isub (n := 233) S dX5_readsStatement_232 rfl (by omega) ?_
    refine ks_putI (n := 236) (fi := 10) S dX5_readsStatement_233 rfl fw_X5_91 rfl rfl (Or.inl rfl) rfl ?_
    refine ks_iconst (n := 237) S dX5_readsStatement_236 rfl (by unfold iv; decide) ?_
    refine ks_zret S dX5_readsStatement_237 (by first | exact Or.inl rfl | exact Or.inr rfl | exact bi_01) ?_
    have hk : m_ln (m_at w n b) = 0 := by unfold m_ln; (repeat' split) <;> omega
    have hz := m_fp_z hk
    exact ⟨by rw [bi_f (by omega)], FrN.rf.pl.pl, fun y => by omega, fun _ => by rw [kq_up_s]; omega⟩
  · skip
    refine ks_aload_n (n := 227) S dX5_readsStatement_226 rfl rfl ?_
    refine ks_dup (n := 228) S dX5_readsStatement_227 rfl rfl ?_
    refine ks_getI (n := 231) (fi := 10) S dX5_readsStatement_228 rfl fl_X5_91 rfl rfl rfl ?_
    rw [P0]
    refine ks_iconst (n := 232) S dX5_readsStatement_231 rfl (by unfold iv; decide) ?_
    refine ks_isub (n := 233) S dX5_readsStatement_232 rfl (by omega) ?_
    refine ks_putI (n := 236) (fi := 10) S dX5_readsStatement_233 rfl fw_X5_91 rfl rfl (Or.inl rfl) rfl ?_
    refine ks_iconst (n := 237) S dX5_readsStatement_236 rfl (by unfold iv; decide) ?_
    refine ks_zret S dX5_readsStatement_237 (by first | exact Or.inl rfl | exact Or.inr rfl | exact bi_01) ?_
    have hk : m_ln (m_at w n b) = 0 := by unfold m_ln; (repeat' split) <;> omega
    have hz := m_fp_z hk
    exact ⟨by rw [bi_f (by omega)], FrN.rf.pl.pl, fun y => by omega, fun _ => by rw [kq_up_s]; omega⟩
  · skip
    refine ks_aload_n (n := 227) S dX5_readsStatement_226 rfl rfl ?_
    refine ks_dup (n := 228) S dX5_readsStatement_227 rfl rfl ?_
    refine ks_getI (n := 231) (fi := 10) S dX5_readsStatement_228 rfl fl_X5_91 rfl rfl rfl ?_
    rw [P0]
    refine ks_iconst (n := 232) S dX5_readsStatement_231 rfl (by unfold iv; decide) ?_
    refine ks_isub (n := 233) S dX5_readsStatement_232 rfl (by omega) ?_
    refine ks_putI (n := 236) (fi := 10) S dX5_readsStatement_233 rfl fw_X5_91 rfl rfl (Or.inl rfl) rfl ?_
    refine ks_iconst (n := 237) S dX5_readsStatement_236 rfl (by unfold iv; decide) ?_
    refine ks_zret S dX5_readsStatement_237 (by first | exact Or.inl rfl | exact Or.inr rfl | exact bi_01) ?_
    have hk : m_ln (m_at w n b) = 0 := by unfold m_ln; (repeat' split) <;> omega
    have hz := m_fp_z hk
    exact ⟨by rw [bi_f (by omega)], FrN.rf.pl.pl, fun y => by omega, fun _ => by rw [kq_up_s]; omega⟩
  · skip
    refine ks_aload_n (n := 227) S dX5_readsStatement_226 rfl rfl ?_
    refine ks_dup (n := 228) S dX5_readsStatement_227 rfl rfl ?_
    refine ks_getI (n := 231) (fi := 10) S dX5_readsStatement_228 rfl fl_X5_91 rfl rfl rfl ?_
    rw [P0]
    refine ks_iconst (n := 232) S dX5_readsStatement_231 rfl (by unfold iv; decide) ?_
    refine ks_isub (n := 233) S dX5_readsStatement_232 rfl (by omega) ?_
    refine ks_putI (n := 236) (fi := 10) S dX5_readsStatement_233 rfl fw_X5_91 rfl rfl (Or.inl rfl) rfl ?_
    refine ks_iconst (n := 237) S dX5_readsStatement_236 rfl (by unfold iv; decide) ?_
    refine ks_zret S dX5_readsStatement_237 (by first | exact Or.inl rfl | exact Or.inr rfl | exact bi_01) ?_
    have hk : m_ln (m_at w n b) = 0 := by unfold m_ln; (repeat' split) <;> omega
    have hz := m_fp_z hk
    exact ⟨by rw [bi_f (by omega)], FrN.rf.pl.pl, fun y => by omega, fun _ => by rw [kq_up_s]; omega⟩
  · skip
    exact rs_p S (h.fr G0) P0 b0 hJ (by omega)
  · skip
    exact rs_p S (h.fr G0) P0 b0 hJ (by omega)
  · skip
    exact rs_q S (h.fr G0) P0 b0 hJ (by omega)
end READ2

