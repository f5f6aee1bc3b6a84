section PUB9
variable {l : Launch} {σ M : KS}
theorem kq_cmp_0 {x y : Int} : kq_cmp x y = 0 ↔ x = y := by unfold kq_cmp; (repeat' split) <;> omega
theorem kq_cmp_le {x y : Int} : kq_cmp x y ≤ 0 ↔ x ≤ y := by unfold kq_cmp; (repeat' split) <;> omega
theorem kq_cmp_ge {x y : Int} : 0 ≤ kq_cmp x y ↔ y ≤ x := by unfold kq_cmp; (repeat' split) <;> omega
def m_g (a b : Int) : Int := (Nat.gcd a.toNat b.toNat : Int)
theorem m_g_step {x y : Int} (hx : 0 ≤ x) (hy : 0 < y) : m_g y (x % y) = m_g x y := by
  unfold m_g
  rw [Int.toNat_emod hx (by omega), Nat.gcd_comm x.toNat, Nat.gcd_rec y.toNat x.toNat, Nat.gcd_comm]
theorem m_g_0 {x : Int} (hx : 0 ≤ x) : m_g x 0 = x := by
  unfold m_g
  rw [show (0 : Int).toNat = 0 from rfl, Nat.gcd_zero_right]; omega
theorem m_g_c (x y : Int) : m_g x y = m_g y x := by unfold m_g; rw [Nat.gcd_comm]
theorem m_g_pos {x y : Int} (hy : 0 < y) : 0 < m_g x y := by
  unfold m_g
  have : 0 < Nat.gcd x.toNat y.toNat := Nat.gcd_pos_of_pos_right _ (by omega)
  omega
def m_po (a b p : Int) : Int := (if p = 0 then a else b) / m_g a b
theorem ev_X5_gcd {a b : Int} (ha : 0 ≤ a ∧ a ≤ 1000000000000) (hb : 0 ≤ b ∧ b ≤ 1000000000000) : Ev l yX5_gcd cX5_gcd 10 (some .long) 0 0 [kj a, kj b] σ (Rt (some (kj (m_g a b))) σ) := by
  refine ev_intro ym_X5_gcd.1 (Nat.le_of_ble_eq_true rfl) (fun hv hσ K S => ?_)
  have hv := hv
  show K 0 [some (kj a), none, some (kj b), none, none, none, none, none, none, none] [] σ
  have lp : ∀ (n : Nat) (u v : Int), v < n → 0 ≤ u → 0 ≤ v → u ≤ 1000000000000 → v ≤ 1000000000000 → m_g u v = m_g a b → K 6 [some (kj a), none, some (kj b), none, some (kj u), none, some (kj v), none, none, none] [] σ := by
    intro n
    induction n with
    | zero => intro u v h1 h2 h3; omega
    | succ n ih =>
      intro u v h1 h2 h3 h4 h5 hg
      refine ks_lload (n := 8) S dX5_gcd_6 rfl rfl ?_
      refine ks_lconst (n := 9) (y := 0) S dX5_gcd_8 rfl (by unfold jv; decide) ?_
      refine ks_lcmp (n := 10) S dX5_gcd_9 rfl ?_
      refine ks_if_eq (n := 13) (tgt := 31) S dX5_gcd_10 rfl rfl (fun h10 => ?_) (fun h10 => ?_)
      · skip
        simp only [kq_cmp_0] at h10
        refine ks_lload (n := 33) S dX5_gcd_31 rfl rfl ?_
        refine ks_lret S dX5_gcd_33 ?_
        exact rt_j (by rw [← hg, h10, m_g_0 h2])
      · skip
        simp only [kq_cmp_0] at h10
        have e1 : u % v < v := Int.emod_lt_of_pos _ (by omega)
        have e2 : 0 ≤ u % v := Int.emod_nonneg _ (by omega)
        refine ks_lload (n := 15) S dX5_gcd_13 rfl rfl ?_
        refine ks_lload (n := 17) S dX5_gcd_15 rfl rfl ?_
        refine ks_lrem (n := 18) S dX5_gcd_17 rfl (by omega) ?_
        refine ks_lstore (n := 20) S dX5_gcd_18 rfl (L' := fun yy => [some (kj a), none, some (kj b), none, some (kj u), none, some (kj v), none, some (kj yy), none]) (Nat.le_of_ble_eq_true rfl) (fun _ => rfl) (fun v8_18 hv18 => ?_)
        subst v8_18
        refine ks_lload (n := 22) S dX5_gcd_20 rfl rfl ?_
        refine ks_lstore (n := 24) S dX5_gcd_22 rfl (L' := fun yy => [some (kj a), none, some (kj b), none, some (kj yy), none, some (kj v), none, some (kj _), none]) (Nat.le_of_ble_eq_true rfl) (fun _ => rfl) (fun v4_22 hv22 => ?_)
        subst v4_22
        refine ks_lload (n := 26) S dX5_gcd_24 rfl rfl ?_
        refine ks_lstore (n := 28) S dX5_gcd_26 rfl (L' := fun yy => [some (kj a), none, some (kj b), none, some (kj _), none, some (kj yy), none, some (kj _), none]) (Nat.le_of_ble_eq_true rfl) (fun _ => rfl) (fun v6_26 hv26 => ?_)
        subst v6_26
        refine ks_goto (n := 6) S dX5_gcd_28 rfl ?_
        refine ks_weak (L' := [some (kj a), none, some (kj b), none, some (kj _), none, some (kj _), none, none, none]) S ((And.intro rfl (And.intro rfl (And.intro rfl (And.intro rfl True.intro))))) ?_
        exact ih _ _ (by omega) (by omega) (by omega) (by omega) (by omega) (by rw [m_g_step h2 (by omega)]; exact hg)
  refine ks_lload_n (n := 1) S dX5_gcd_0 rfl rfl ?_
  refine ks_lstore (n := 3) S dX5_gcd_1 rfl (L' := fun yy => [some (kj a), none, some (kj b), none, some (kj yy), none, none, none, none, none]) (Nat.le_of_ble_eq_true rfl) (fun _ => rfl) (fun v4_1 hv1 => ?_)
  subst v4_1
  refine ks_lload_n (n := 4) S dX5_gcd_3 rfl rfl ?_
  refine ks_lstore (n := 6) S dX5_gcd_4 rfl (L' := fun yy => [some (kj a), none, some (kj b), none, some (kj _), none, some (kj yy), none, none, none]) (Nat.le_of_ble_eq_true rfl) (fun _ => rfl) (fun v6_4 hv4 => ?_)
  subst v6_4
  exact lp (b.toNat + 1) a b (by omega) ha.1 hb.1 ha.2 hb.2 rfl
theorem ev_X5_partOf {a b p : Int} (ha : 0 ≤ a ∧ a ≤ 1000000000000) (hb : 0 ≤ b ∧ b ≤ 1000000000000) (hab : a ≠ 0 → 0 < b) (hp : p = 0 ∨ p = 1) : Ev l yX5_partOf cX5_partOf 5 (some .long) 1 29 [kj a, kj b, ki p] σ (Rt (some (kj (m_po a (if b < 1 then 1 else b) p))) σ) := by
  refine ev_intro ym_X5_partOf.1 (Nat.le_of_ble_eq_true rfl) (fun hv hσ K S => ?_)
  have hv := hv
  show K 0 [some (kj a), none, some (kj b), none, some (ki p)] [] σ
  refine ks_lload_n (n := 1) S dX5_partOf_0 rfl rfl ?_
  refine ks_lconst (n := 2) (y := 0) S dX5_partOf_1 rfl (by unfold jv; decide) ?_
  refine ks_lcmp (n := 3) S dX5_partOf_2 rfl ?_
  refine ks_if_ne (n := 6) (tgt := 10) S dX5_partOf_3 rfl rfl (fun h3 => ?_) (fun h3 => ?_)
  · skip
    simp only [ne_eq, kq_cmp_0] at h3
    have hg := m_g_pos (x := a) (hab (by omega))
    have hb0 := hab (by omega)
    refine ks_iload (n := 12) S dX5_partOf_10 rfl rfl ?_
    refine ks_if_ne (n := 15) (tgt := 19) S dX5_partOf_12 rfl rfl (fun h12 => ?_) (fun h12 => ?_)
    · skip
      refine ks_lload_n (n := 20) S dX5_partOf_19 rfl rfl ?_
      refine ks_lload_n (n := 21) S dX5_partOf_20 rfl rfl ?_
      refine ks_lload_n (n := 22) S dX5_partOf_21 rfl rfl ?_
      refine kf_s2j (n := 25) S dX5_partOf_22 rfl ml_X5_220 ym_X5_gcd (ev_X5_gcd ha hb) (by decide) (Nat.le_of_ble_eq_true rfl) ?_
      refine ks_ldiv (n := 26) S dX5_partOf_25 rfl (by omega) ?_
      refine ks_lret S dX5_partOf_26 ?_
      refine rt_j ?_
      rw [if_neg (show ¬ b < 1 by omega)]
      unfold m_po
      first | rw [if_pos (by omega)] | rw [if_neg (by omega)]
    · skip
      refine ks_lload_n (n := 16) S dX5_partOf_15 rfl rfl ?_
      refine ks_goto (n := 20) S dX5_partOf_16 rfl ?_
      refine ks_lload_n (n := 21) S dX5_partOf_20 rfl rfl ?_
      refine ks_lload_n (n := 22) S dX5_partOf_21 rfl rfl ?_
      refine kf_s2j (n := 25) S dX5_partOf_22 rfl ml_X5_220 ym_X5_gcd (ev_X5_gcd ha hb) (by decide) (Nat.le_of_ble_eq_true rfl) ?_
      refine ks_ldiv (n := 26) S dX5_partOf_25 rfl (by omega) ?_
      refine ks_lret S dX5_partOf_26 ?_
      refine rt_j ?_
      rw [if_neg (show ¬ b < 1 by omega)]
      unfold m_po
      first | rw [if_pos (by omega)] | rw [if_neg (by omega)]
  · skip
    simp only [ne_eq, kq_cmp_0] at h3
    refine ks_iload (n := 8) S dX5_partOf_6 rfl rfl ?_
    refine ks_i2l (n := 9) S dX5_partOf_8 rfl ?_
    refine ks_lret S dX5_partOf_9 ?_
    refine rt_j ?_
    subst h3
    unfold m_po
    rw [m_g_c, m_g_0 (by split <;> omega)]
    rcases hp with rfl | rfl
    · rw [if_pos rfl, Int.zero_ediv]
    · rw [if_neg (by decide), Int.ediv_self (by split <;> omega)]
/-- Euclid, k rounds at most -/
def m_eu : Nat → Int → Int → Int
  | 0, c, _ => c
  | k + 1, c, r => if r = 0 then c else m_eu k r (c % r)
theorem m_eu_g : ∀ (k a b : Nat) (c r : Int), 0 ≤ r → r < c → r < 2 ^ a → c < 2 ^ b → a + b ≤ k → m_eu k c r = m_g c r := by
  intro k
  induction k with
  | zero =>
    intro a b c r h1 h2 h3 h4 h5
    have ha : a = 0 := by omega
    have hb : b = 0 := by omega
    subst ha; subst hb
    simp at h3 h4
    omega
  | succ k ih =>
    intro a b c r h1 h2 h3 h4 h5
    unfold m_eu
    by_cases hr : r = 0
    · rw [if_pos hr, hr, m_g_0 (by omega)]
    · rw [if_neg hr]
      have e1 : c % r < r := Int.emod_lt_of_pos _ (by omega)
      have e2 : 0 ≤ c % r := Int.emod_nonneg _ (by omega)
      have e3 : 2 * (c % r) < c := by
        have hq : 1 ≤ c / r := by
          have : r / r ≤ c / r := Int.ediv_le_ediv (by omega) (by omega)
          rwa [Int.ediv_self (by omega)] at this
        have hm := Int.mul_ediv_add_emod c r
        have : r * 1 ≤ r * (c / r) := Int.mul_le_mul_of_nonneg_left hq (by omega)
        omega
      cases b with
      | zero => simp at h4; omega
      | succ b =>
        have e4 : c % r < 2 ^ b := by rw [Int.pow_succ] at h4; omega
        rw [ih b a r (c % r) e2 e1 e4 h3 (by omega), m_g_step (by omega) (by omega)]
theorem m_eu_s {e i c r : Int} (h : i < e) : m_eu (e - i).toNat c r = if r = 0 then c else m_eu (e - (i + 1)).toNat r (c % r) := by
  rw [show (e - i).toNat = (e - (i + 1)).toNat + 1 by omega]
  rfl
theorem m_eu_200 {c r : Int} (hc : 0 < c ∧ c ≤ 1000000000000) (hr : 0 ≤ r ∧ r ≤ 1000000000000) : m_eu 200 c r = m_g r c := by
  have p : (1000000000000 : Int) < 2 ^ 40 := by decide
  rw [m_g_c r c]
  by_cases h : r < c
  · exact m_eu_g 200 40 40 c r hr.1 h (by omega) (by omega) (by omega)
  · show m_eu (199 + 1) c r = _
    unfold m_eu
    rw [if_neg (by omega)]
    have e1 : c % r < r := Int.emod_lt_of_pos _ (by omega)
    have e2 : 0 ≤ c % r := Int.emod_nonneg _ (by omega)
    rw [m_eu_g 199 40 40 r (c % r) e2 e1 (by omega) (by omega) (by omega), m_g_step (by omega) (by omega)]
theorem ev_X4_partOf {a b p : Int} (ha : 0 ≤ a ∧ a ≤ 1000000000000) (hb : 0 < b ∧ b ≤ 1000000000000) : Ev l yX4_partOf cX4_partOf 12 (some .long) 0 0 [kj a, kj b, ki p] σ (Rt (some (kj (m_po a b p))) σ) := by
  have h200 := m_eu_200 hb ha
  have hgp := m_g_pos (x := a) hb.1
  refine ev_intro ym_X4_partOf.1 (Nat.le_of_ble_eq_true rfl) (fun hv hσ K S => ?_)
  have hv := hv
  show K 0 [some (kj a), none, some (kj b), none, some (ki p), none, none, none, none, none, none, none] [] σ
  refine kq_use (kq_for (α := Int × Int) 200 (fun i s => 0 ≤ i ∧ (0 < s.1 ∧ s.1 ≤ 1000000000000) ∧ (0 ≤ s.2 ∧ s.2 ≤ 1000000000000) ∧ m_eu (200 - i).toNat s.1 s.2 = m_g a b) (fun i s => K 9 [some (kj a), none, some (kj b), none, some (ki p), some (kj s.1), none, some (kj s.2), none, some (ki i), none, none] [] σ) ?_) (fun lp => ?_)
  · intro i s hi inv ih
    obtain ⟨u, v⟩ := s
    obtain ⟨i0, hu, hv1, hg⟩ := inv
    dsimp only at hu hv1 hg ⊢
    refine ks_iload (n := 11) S dX4_partOf_9 rfl rfl ?_
    refine ks_sipush (n := 14) S dX4_partOf_11 rfl (by unfold iv; decide) ?_
    refine ks_icmp_ge (n := 17) (tgt := 45) S dX4_partOf_14 rfl rfl (fun h14 => ?_) (fun h14 => ?_)
    · skip
      have hug : u = m_g a b := by
        rw [← hg]
        by_cases h9 : i < 200
        · rw [m_eu_s h9, if_pos (by omega)]
        · rw [show (200 - i).toNat = 0 by omega]; rfl
      refine ks_lload (n := 47) S dX4_partOf_45 rfl rfl ?_
      refine ks_lconst (n := 48) (y := 1) S dX4_partOf_47 rfl (by unfold jv; decide) ?_
      refine ks_lcmp (n := 49) S dX4_partOf_48 rfl ?_
      refine ks_if_ge (n := 52) (tgt := 55) S dX4_partOf_49 rfl rfl (fun h49 => ?_) (fun h49 => ?_)
      · skip
        simp only [kq_cmp_ge] at h49
        refine ks_iload (n := 57) S dX4_partOf_55 rfl rfl ?_
        refine ks_if_ne (n := 60) (tgt := 64) S dX4_partOf_57 rfl rfl (fun h57 => ?_) (fun h57 => ?_)
        · skip
          refine ks_lload_n (n := 65) S dX4_partOf_64 rfl rfl ?_
          refine ks_lload (n := 67) S dX4_partOf_65 rfl rfl ?_
          refine ks_ldiv (n := 68) S dX4_partOf_67 rfl (by omega) ?_
          refine ks_lret S dX4_partOf_68 ?_
          refine rt_j ?_
          unfold m_po
          first | (exfalso; omega) | (rw [if_pos (by omega), hug]; done) | (rw [if_neg (by omega), hug]; done)
        · skip
          refine ks_lload_n (n := 61) S dX4_partOf_60 rfl rfl ?_
          refine ks_goto (n := 65) S dX4_partOf_61 rfl ?_
          refine ks_lload (n := 67) S dX4_partOf_65 rfl rfl ?_
          refine ks_ldiv (n := 68) S dX4_partOf_67 rfl (by omega) ?_
          refine ks_lret S dX4_partOf_68 ?_
          refine rt_j ?_
          unfold m_po
          first | (exfalso; omega) | (rw [if_pos (by omega), hug]; done) | (rw [if_neg (by omega), hug]; done)
      · skip
        simp only [kq_cmp_ge] at h49
        refine ks_lconst (n := 53) (y := 1) S dX4_partOf_52 rfl (by unfold jv; decide) ?_
        refine ks_lstore (n := 55) S dX4_partOf_53 rfl (L' := fun yy => [some (kj a), none, some (kj b), none, some (ki p), some (kj yy), none, some (kj v), none, some (ki i), none, none]) (Nat.le_of_ble_eq_true rfl) (fun _ => rfl) (fun v5_53 hv53 => ?_)
        subst v5_53
        refine ks_iload (n := 57) S dX4_partOf_55 rfl rfl ?_
        refine ks_if_ne (n := 60) (tgt := 64) S dX4_partOf_57 rfl rfl (fun h57 => ?_) (fun h57 => ?_)
        · skip
          refine ks_lload_n (n := 65) S dX4_partOf_64 rfl rfl ?_
          refine ks_lload (n := 67) S dX4_partOf_65 rfl rfl ?_
          refine ks_ldiv (n := 68) S dX4_partOf_67 rfl (by omega) ?_
          refine ks_lret S dX4_partOf_68 ?_
          refine rt_j ?_
          unfold m_po
          first | (exfalso; omega) | (rw [if_pos (by omega), hug]; done) | (rw [if_neg (by omega), hug]; done)
        · skip
          refine ks_lload_n (n := 61) S dX4_partOf_60 rfl rfl ?_
          refine ks_goto (n := 65) S dX4_partOf_61 rfl ?_
          refine ks_lload (n := 67) S dX4_partOf_65 rfl rfl ?_
          refine ks_ldiv (n := 68) S dX4_partOf_67 rfl (by omega) ?_
          refine ks_lret S dX4_partOf_68 ?_
          refine rt_j ?_
          unfold m_po
          first | (exfalso; omega) | (rw [if_pos (by omega), hug]; done) | (rw [if_neg (by omega), hug]; done)
    · skip
      refine ks_lload (n := 19) S dX4_partOf_17 rfl rfl ?_
      refine ks_lconst (n := 20) (y := 0) S dX4_partOf_19 rfl (by unfold jv; decide) ?_
      refine ks_lcmp (n := 21) S dX4_partOf_20 rfl ?_
      refine ks_if_le (n := 24) (tgt := 45) S dX4_partOf_21 rfl rfl (fun h21 => ?_) (fun h21 => ?_)
      · skip
        simp only [kq_cmp_le] at h21
        have hug : u = m_g a b := by
          rw [← hg]
          by_cases h9 : i < 200
          · rw [m_eu_s h9, if_pos (by omega)]
          · rw [show (200 - i).toNat = 0 by omega]; rfl
        refine ks_lload (n := 47) S dX4_partOf_45 rfl rfl ?_
        refine ks_lconst (n := 48) (y := 1) S dX4_partOf_47 rfl (by unfold jv; decide) ?_
        refine ks_lcmp (n := 49) S dX4_partOf_48 rfl ?_
        refine ks_if_ge (n := 52) (tgt := 55) S dX4_partOf_49 rfl rfl (fun h49 => ?_) (fun h49 => ?_)
        · skip
          simp only [kq_cmp_ge] at h49
          refine ks_iload (n := 57) S dX4_partOf_55 rfl rfl ?_
          refine ks_if_ne (n := 60) (tgt := 64) S dX4_partOf_57 rfl rfl (fun h57 => ?_) (fun h57 => ?_)
          · skip
            refine ks_lload_n (n := 65) S dX4_partOf_64 rfl rfl ?_
            refine ks_lload (n := 67) S dX4_partOf_65 rfl rfl ?_
            refine ks_ldiv (n := 68) S dX4_partOf_67 rfl (by omega) ?_
            refine ks_lret S dX4_partOf_68 ?_
            refine rt_j ?_
            unfold m_po
            first | (exfalso; omega) | (rw [if_pos (by omega), hug]; done) | (rw [if_neg (by omega), hug]; done)
          · skip
            refine ks_lload_n (n := 61) S dX4_partOf_60 rfl rfl ?_
            refine ks_goto (n := 65) S dX4_partOf_61 rfl ?_
            refine ks_lload (n := 67) S dX4_partOf_65 rfl rfl ?_
            refine ks_ldiv (n := 68) S dX4_partOf_67 rfl (by omega) ?_
            refine ks_lret S dX4_partOf_68 ?_
            refine rt_j ?_
            unfold m_po
            first | (exfalso; omega) | (rw [if_pos (by omega), hug]; done) | (rw [if_neg (by omega), hug]; done)
        · skip
          simp only [kq_cmp_ge] at h49
          refine ks_lconst (n := 53) (y := 1) S dX4_partOf_52 rfl (by unfold jv; decide) ?_
          refine ks_lstore (n := 55) S dX4_partOf_53 rfl (L' := fun yy => [some (kj a), none, some (kj b), none, some (ki p), some (kj yy), none, some (kj v), none, some (ki i), none, none]) (Nat.le_of_ble_eq_true rfl) (fun _ => rfl) (fun v5_53 hv53 => ?_)
          subst v5_53
          refine ks_iload (n := 57) S dX4_partOf_55 rfl rfl ?_
          refine ks_if_ne (n := 60) (tgt := 64) S dX4_partOf_57 rfl rfl (fun h57 => ?_) (fun h57 => ?_)
          · skip
            refine ks_lload_n (n := 65) S dX4_partOf_64 rfl rfl ?_
            refine ks_lload (n := 67) S dX4_partOf_65 rfl rfl ?_
            refine ks_ldiv (n := 68) S dX4_partOf_67 rfl (by omega) ?_
            refine ks_lret S dX4_partOf_68 ?_
            refine rt_j ?_
            unfold m_po
            first | (exfalso; omega) | (rw [if_pos (by omega), hug]; done) | (rw [if_neg (by omega), hug]; done)
          · skip
            refine ks_lload_n (n := 61) S dX4_partOf_60 rfl rfl ?_
            refine ks_goto (n := 65) S dX4_partOf_61 rfl ?_
            refine ks_lload (n := 67) S dX4_partOf_65 rfl rfl ?_
            refine ks_ldiv (n := 68) S dX4_partOf_67 rfl (by omega) ?_
            refine ks_lret S dX4_partOf_68 ?_
            refine rt_j ?_
            unfold m_po
            first | (exfalso; omega) | (rw [if_pos (by omega), hug]; done) | (rw [if_neg (by omega), hug]; done)
      · skip
        simp only [kq_cmp_le] at h21
        have e1 : u % v < v := Int.emod_lt_of_pos _ (by omega)
        have e2 : 0 ≤ u % v := Int.emod_nonneg _ (by omega)
        refine ks_lload (n := 26) S dX4_partOf_24 rfl rfl ?_
        refine ks_lload (n := 28) S dX4_partOf_26 rfl rfl ?_
        refine ks_lrem (n := 29) S dX4_partOf_28 rfl (by omega) ?_
        refine ks_lstore (n := 31) S dX4_partOf_29 rfl (L' := fun yy => [some (kj a), none, some (kj b), none, some (ki p), some (kj u), none, some (kj v), none, some (ki i), some (kj yy), none]) (Nat.le_of_ble_eq_true rfl) (fun _ => rfl) (fun v10_29 hv29 => ?_)
        subst v10_29
        refine ks_lload (n := 33) S dX4_partOf_31 rfl rfl ?_
        refine ks_lstore (n := 35) S dX4_partOf_33 rfl (L' := fun yy => [some (kj a), none, some (kj b), none, some (ki p), some (kj yy), none, some (kj v), none, some (ki i), some (kj _), none]) (Nat.le_of_ble_eq_true rfl) (fun _ => rfl) (fun v5_33 hv33 => ?_)
        subst v5_33
        refine ks_lload (n := 37) S dX4_partOf_35 rfl rfl ?_
        refine ks_lstore (n := 39) S dX4_partOf_37 rfl (L' := fun yy => [some (kj a), none, some (kj b), none, some (ki p), some (kj _), none, some (kj yy), none, some (ki i), some (kj _), none]) (Nat.le_of_ble_eq_true rfl) (fun _ => rfl) (fun v7_37 hv37 => ?_)
        subst v7_37
        refine ks_iinc (n := 42) S dX4_partOf_39 rfl rfl (by omega) (L' := fun yy => [some (kj a), none, some (kj b), none, some (ki p), some (kj _), none, some (kj _), none, some (ki yy), some (kj _), none]) (fun _ => rfl) (fun v9_39 hv39 => ?_)
        subst v9_39
        refine ks_goto (n := 9) S dX4_partOf_42 rfl ?_
        refine ks_weak (L' := [some (kj a), none, some (kj b), none, some (ki p), some (kj _), none, some (kj _), none, some (ki _), none, none]) S ((And.intro rfl (And.intro rfl (And.intro rfl (And.intro rfl (And.intro rfl (And.intro rfl True.intro))))))) ?_
        refine ih (_, _) (by omega) ⟨by omega, ⟨by dsimp only; omega, by dsimp only; omega⟩, ⟨by dsimp only; omega, by dsimp only; omega⟩, ?_⟩
        dsimp only
        rw [m_eu_s (by omega), if_neg (by omega)] at hg
        exact hg
  refine ks_lload_n (n := 1) S dX4_partOf_0 rfl rfl ?_
  refine ks_lstore (n := 3) S dX4_partOf_1 rfl (L' := fun yy => [some (kj a), none, some (kj b), none, some (ki p), some (kj yy), none, none, none, none, none, none]) (Nat.le_of_ble_eq_true rfl) (fun _ => rfl) (fun v5_1 hv1 => ?_)
  subst v5_1
  refine ks_lload_n (n := 4) S dX4_partOf_3 rfl rfl ?_
  refine ks_lstore (n := 6) S dX4_partOf_4 rfl (L' := fun yy => [some (kj a), none, some (kj b), none, some (ki p), some (kj _), none, some (kj yy), none, none, none, none]) (Nat.le_of_ble_eq_true rfl) (fun _ => rfl) (fun v7_4 hv4 => ?_)
  subst v7_4
  refine ks_iconst (n := 7) S dX4_partOf_6 rfl (by unfold iv; decide) ?_
  refine ks_istore (n := 9) S dX4_partOf_7 rfl (L' := fun yy => [some (kj a), none, some (kj b), none, some (ki p), some (kj _), none, some (kj _), none, some (ki yy), none, none]) (Nat.le_of_ble_eq_true rfl) (fun _ => rfl) (fun v9_7 hv7 => ?_)
  obtain rfl : v9_7 = 0 := by omega
  exact lp 0 (b, a) (by omega) ⟨by omega, hb, ha, by rw [← h200]; rfl⟩
theorem ev_X4_refuseLong {k : Int} (h : -6 ≤ k ∧ k ≤ -1) : Ev l yX4_refuseLong cX4_refuseLong 2 (some .long) 1 21 [kr 0, ki k] σ (Rt (some (kj (4000000000000000000 - k))) (kq_up σ 37 (-k) (wr (σ 37 (-k) + 1)))) := by
  refine ev_intro ym_X4_refuseLong.1 (Nat.le_of_ble_eq_true rfl) (fun hv hσ K S => ?_)
  have hv := hv
  show K 0 [some (kr 0), some (ki k)] [] σ
  refine ks_ldc2 (n := 3) (x := 4000000000000000000) S dX4_refuseLong_0 rfl ct_X4_294 (by unfold jv; decide +kernel) ?_
  refine ks_aload_n (n := 4) S dX4_refuseLong_3 rfl rfl ?_
  refine ks_iload_n (n := 5) S dX4_refuseLong_4 rfl rfl ?_
  refine kf_v1i (n := 8) S dX4_refuseLong_5 rfl ml_X4_51 ym_X4_refuse (ev_X4_refuse h) (by decide) rfl (Nat.le_of_ble_eq_true rfl) ?_
  refine ks_i2l (n := 9) S dX4_refuseLong_8 rfl ?_
  refine ks_lsub (n := 10) S dX4_refuseLong_9 rfl (by omega) ?_
  refine ks_lret S dX4_refuseLong_10 ?_
  exact rt_r
def A_mean (M : KS) (p : Int) : Int × KS := if ¬ (0 ≤ p ∧ p ≤ 1) then (4000000000000000002, rfM M (-2)) else (m_po (m_allH (M 39)) (if M 39 0 < 1 then 1 else M 39 0) p, M)
theorem qcj_mk {τ N : KS} {A : Int × KS} {x : Int} (h : RC τ N) (hf : ∀ c, 38 ≤ c → τ c = σ c) (e : A = (x, N)) : QCj A σ (some (kj x)) τ := by rw [e]; exact ⟨rfl, h, hf⟩
theorem qrj_mk {τ N : KS} {A : Int × KS} {x : Int} (h : RR τ N) (hf : ∀ c, c < 38 → τ c = σ c) (e : A = (x, N)) : QRj A σ (some (kj x)) τ := by rw [e]; exact ⟨rfl, h, hf⟩
theorem pc_mean {p : Int} (hM : OkM M) (hC : RC σ M) : Ev l yX4_mean cX4_mean 2 (some .long) 2 42 [kr 0, ki p] σ (QCj (A_mean M p) σ) := by
  have R := hC.1
  have ok := hM.1
  have n9 := ok.1
  have n6 := ok.2.1
  refine ev_intro ym_X4_mean.1 (Nat.le_of_ble_eq_true rfl) (fun hv hσ K S => ?_)
  have hv := hv
  show K 0 [some (kr 0), some (ki p)] [] σ
  refine ks_iload_n (n := 1) S dX4_mean_0 rfl rfl ?_
  refine ks_if_eq (n := 4) (tgt := 16) S dX4_mean_1 rfl rfl (fun h1 => ?_) (fun h1 => ?_)
  · skip
    have hb := m_allH_b ok
    have s0 : σ 1 0 = M 39 0 := R.1
    refine ks_aload_n (n := 17) S dX4_mean_16 rfl rfl ?_
    refine ks_getr (n := 20) S dX4_mean_17 rfl fl_X4_10 rfl rfl ?_
    refine kf_v0i (n := 23) S dX4_mean_20 rfl ml_X4_139 ym_X0_allHeat (ev_X0_allHeat kq_H1 R ok) (by decide) kq_H1.o (Nat.le_of_ble_eq_true rfl) ?_
    refine ks_i2l (n := 24) S dX4_mean_23 rfl ?_
    refine ks_iconst (n := 25) S dX4_mean_24 rfl (by unfold iv; decide) ?_
    refine ks_aload_n (n := 26) S dX4_mean_25 rfl rfl ?_
    refine ks_getr (n := 29) S dX4_mean_26 rfl fl_X4_10 rfl rfl ?_
    refine ks_getI (n := 32) (fi := 0) S dX4_mean_29 rfl fl_X4_161 kq_H1.o rfl rfl ?_
    refine ks_mmax (n := 35) S dX4_mean_32 rfl ml_X4_261 (by decide) (Nat.le_of_ble_eq_true rfl) ?_
    refine ks_i2l (n := 36) S dX4_mean_35 rfl ?_
    refine ks_iload_n (n := 37) S dX4_mean_36 rfl rfl ?_
    refine kf_s3j (n := 40) S dX4_mean_37 rfl ml_X4_248 ym_X4_partOf (ev_X4_partOf (by omega) (by rw [s0]; split <;> omega)) (by decide) (Nat.le_of_ble_eq_true rfl) ?_
    refine ks_lret S dX4_mean_40 ?_
    refine qcj_mk hC (fun _ _ => rfl) ?_
    unfold A_mean
    rw [if_neg (by omega), s0]
    refine congrArg (fun z => (m_po (m_allH (M 39)) z p, M)) ?_
    (repeat' split) <;> omega
  · skip
    refine ks_iload_n (n := 5) S dX4_mean_4 rfl rfl ?_
    refine ks_iconst (n := 6) S dX4_mean_5 rfl (by unfold iv; decide) ?_
    refine ks_icmp_eq (n := 9) (tgt := 16) S dX4_mean_6 rfl rfl (fun h6 => ?_) (fun h6 => ?_)
    · skip
      have hb := m_allH_b ok
      have s0 : σ 1 0 = M 39 0 := R.1
      refine ks_aload_n (n := 17) S dX4_mean_16 rfl rfl ?_
      refine ks_getr (n := 20) S dX4_mean_17 rfl fl_X4_10 rfl rfl ?_
      refine kf_v0i (n := 23) S dX4_mean_20 rfl ml_X4_139 ym_X0_allHeat (ev_X0_allHeat kq_H1 R ok) (by decide) kq_H1.o (Nat.le_of_ble_eq_true rfl) ?_
      refine ks_i2l (n := 24) S dX4_mean_23 rfl ?_
      refine ks_iconst (n := 25) S dX4_mean_24 rfl (by unfold iv; decide) ?_
      refine ks_aload_n (n := 26) S dX4_mean_25 rfl rfl ?_
      refine ks_getr (n := 29) S dX4_mean_26 rfl fl_X4_10 rfl rfl ?_
      refine ks_getI (n := 32) (fi := 0) S dX4_mean_29 rfl fl_X4_161 kq_H1.o rfl rfl ?_
      refine ks_mmax (n := 35) S dX4_mean_32 rfl ml_X4_261 (by decide) (Nat.le_of_ble_eq_true rfl) ?_
      refine ks_i2l (n := 36) S dX4_mean_35 rfl ?_
      refine ks_iload_n (n := 37) S dX4_mean_36 rfl rfl ?_
      refine kf_s3j (n := 40) S dX4_mean_37 rfl ml_X4_248 ym_X4_partOf (ev_X4_partOf (by omega) (by rw [s0]; split <;> omega)) (by decide) (Nat.le_of_ble_eq_true rfl) ?_
      refine ks_lret S dX4_mean_40 ?_
      refine qcj_mk hC (fun _ _ => rfl) ?_
      unfold A_mean
      rw [if_neg (by omega), s0]
      refine congrArg (fun z => (m_po (m_allH (M 39)) z p, M)) ?_
      (repeat' split) <;> omega
    · skip
      refine ks_aload_n (n := 10) S dX4_mean_9 rfl rfl ?_
      refine ks_bipush (n := 12) S dX4_mean_10 rfl (by unfold iv; decide) ?_
      refine kf_v1j (n := 15) S dX4_mean_12 rfl ml_X4_237 ym_X4_refuseLong (ev_X4_refuseLong (by omega)) (by decide) rfl (Nat.le_of_ble_eq_true rfl) ?_
      refine ks_lret S dX4_mean_15 ?_
      exact qcj_mk (hC.ref (by omega)) (fun c hc => funext fun j => kq_up_c (by omega)) (by unfold A_mean; rw [if_pos (by omega)]; rfl)
theorem m_allH_d {a : RW} (h : a 0 ≤ 0) : m_allH a = 0 := by
  unfold m_allH
  rw [show (a 0).toNat = 0 by omega]
  rfl
theorem pr_mean {p : Int} (hM : OkM M) (hR : RR σ M) : Ev l yX5_mean cX5_mean 2 (some .long) 2 53 [kr 38, ki p] σ (QRj (A_mean M p) σ) := by
  have e39 : σ 39 = M 39 := hR.1
  have ok : OkR (σ 39) := by rw [e39]; exact hM.1
  have n9 := ok.1
  have n6 := ok.2.1
  refine ev_intro ym_X5_mean.1 (Nat.le_of_ble_eq_true rfl) (fun hv hσ K S => ?_)
  have hv := hv
  show K 0 [some (kr 38), some (ki p)] [] σ
  refine ks_iload_n (n := 1) S dX5_mean_0 rfl rfl ?_
  refine ks_iconst (n := 2) S dX5_mean_1 rfl (by unfold iv; decide) ?_
  refine ks_iconst (n := 3) S dX5_mean_2 rfl (by unfold iv; decide) ?_
  refine kf_s3z (n := 6) S dX5_mean_3 rfl ml_X5_44 ym_X5_isIn (ev_X5_isIn) (by decide) (Nat.le_of_ble_eq_true rfl) ?_
  refine ks_if_eq (n := 9) (tgt := 31) S dX5_mean_6 rfl rfl (fun h6 => ?_) (fun h6 => ?_)
  · skip
    simp only [bi_eq, bi_ne, Classical.not_not] at h6
    refine ks_aload_n (n := 32) S dX5_mean_31 rfl rfl ?_
    refine ks_bipush (n := 34) S dX5_mean_32 rfl (by unfold iv; decide) ?_
    refine kf_v1j (n := 37) S dX5_mean_34 rfl ml_X5_224 ym_X5_noWide (ev_X5_noWide (by omega)) (by decide) rfl (Nat.le_of_ble_eq_true rfl) ?_
    refine ks_lret S dX5_mean_37 ?_
    first | exact qrj_mk hR.ref (fun c hc => funext fun j => kq_up_c (by omega)) (by unfold A_mean; rw [if_pos (by omega)]; rfl) | exact qrj_mk hR (fun _ _ => rfl) (by unfold A_mean; rw [if_neg (by omega), ← e39])
  · skip
    simp only [bi_eq, bi_ne, Classical.not_not] at h6
    have hb := m_allH_b ok
    refine ks_aload_n (n := 10) S dX5_mean_9 rfl rfl ?_
    refine ks_getr (n := 13) S dX5_mean_10 rfl fl_X5_9 rfl rfl ?_
    refine kf_s1i (n := 16) S dX5_mean_13 rfl ml_X5_148 ym_X5_allHeat (ev_X5_allHeat rfl ok) (by decide) (Nat.le_of_ble_eq_true rfl) ?_
    refine ks_i2l (n := 17) S dX5_mean_16 rfl ?_
    refine ks_aload_n (n := 18) S dX5_mean_17 rfl rfl ?_
    refine ks_getr (n := 21) S dX5_mean_18 rfl fl_X5_9 rfl rfl ?_
    refine ks_iconst (n := 22) S dX5_mean_21 rfl (by unfold iv; decide) ?_
    refine ks_iaload (n := 23) S dX5_mean_22 rfl rfl (by omega) ?_
    refine ks_i2l (n := 24) S dX5_mean_23 rfl ?_
    refine ks_iload_n (n := 25) S dX5_mean_24 rfl rfl ?_
    refine kf_s3j (n := 28) S dX5_mean_25 rfl ml_X5_228 ym_X5_partOf (ev_X5_partOf (by omega) (by omega) (fun h => by rcases Int.lt_or_le 0 (σ 39 0) with g | g; exact g; exact absurd (m_allH_d g) h) (by omega)) (by decide) (Nat.le_of_ble_eq_true rfl) ?_
    refine ks_goto (n := 37) S dX5_mean_28 rfl ?_
    refine ks_lret S dX5_mean_37 ?_
    first | exact qrj_mk hR.ref (fun c hc => funext fun j => kq_up_c (by omega)) (by unfold A_mean; rw [if_pos (by omega)]; rfl) | exact qrj_mk hR (fun _ _ => rfl) (by unfold A_mean; rw [if_neg (by omega), ← e39])
end PUB9

