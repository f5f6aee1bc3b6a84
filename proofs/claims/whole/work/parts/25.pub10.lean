section PUB10
variable {l : Launch} {σ M : KS}
def m_bt (s k : Int) : Int := ib_and (ib_shr s k) 1
theorem m_bt_01 {s k : Int} (hs : 0 ≤ s ∧ s < 128) (hk : 0 ≤ k ∧ k < 7) : m_bt s k = 0 ∨ m_bt s k = 1 := by
  have key : ∀ x : Fin 128, ∀ y : Fin 7, m_bt ((x : Nat) : Int) ((y : Nat) : Int) = 0 ∨ m_bt ((x : Nat) : Int) ((y : Nat) : Int) = 1 := by decide +kernel
  have := key ⟨s.toNat, by omega⟩ ⟨k.toNat, by omega⟩
  rw [show (((⟨s.toNat, by omega⟩ : Fin 128) : Nat) : Int) = s by show ((s.toNat : Nat) : Int) = s; omega, show (((⟨k.toNat, by omega⟩ : Fin 7) : Nat) : Int) = k by show ((k.toNat : Nat) : Int) = k; omega] at this
  exact this
def m_wt (s t : Int) : Nat → Int
  | 0 => 1
  | n + 1 => m_wt s t n * (if m_bt s n = 1 then 1 else t - 1)
theorem m_wt_s {s t i : Int} (h : 0 ≤ i) : m_wt s t (i + 1).toNat = m_wt s t i.toNat * (if m_bt s i = 1 then 1 else t - 1) := by
  obtain ⟨n, rfl⟩ := Int.eq_ofNat_of_zero_le h
  rfl
theorem m_wt_b {s t : Int} (ht : 2 ≤ t ∧ t ≤ 20) : ∀ n : Nat, 0 ≤ m_wt s t n ∧ m_wt s t n ≤ 20 ^ n := by
  intro n
  induction n with
  | zero => exact ⟨by show (0 : Int) ≤ 1; omega, by show (1 : Int) ≤ 1; omega⟩
  | succ n ih =>
    show 0 ≤ m_wt s t n * _ ∧ m_wt s t n * _ ≤ _
    rw [Int.pow_succ]
    have hf : 0 ≤ (if m_bt s n = 1 then 1 else t - 1) ∧ (if m_bt s n = 1 then 1 else t - 1) ≤ 20 := by split <;> omega
    exact ⟨Int.mul_nonneg ih.1 hf.1, Int.mul_le_mul ih.2 hf.2 hf.1 (by omega)⟩
theorem p20_b {n : Nat} (h : n ≤ 7) : (20 : Int) ^ n ≤ 1280000000 := by
  have key : ∀ k : Fin 8, (20 : Int) ^ (k : Nat) ≤ 1280000000 := by decide +kernel
  exact key ⟨n, by omega⟩
def m_hb (k f h s : Int) : Nat → Int
  | 0 => h
  | n + 1 => m_mx 0 ((if m_bt s n = 1 then m_hb k f h s n / 2 else m_hb k f h s n) - 1 * m_cools k f)
theorem m_hb_s {k f h s i : Int} (hi : 0 ≤ i) : m_hb k f h s (i + 1).toNat = m_mx 0 ((if m_bt s i = 1 then m_hb k f h s i.toNat / 2 else m_hb k f h s i.toNat) - 1 * m_cools k f) := by
  obtain ⟨n, rfl⟩ := Int.eq_ofNat_of_zero_le hi
  rfl
theorem m_hb_b {k f h s : Int} (hf : 0 ≤ f ∧ f ≤ 9) (hh : 0 ≤ h ∧ h ≤ 99) : ∀ n : Nat, 0 ≤ m_hb k f h s n ∧ m_hb k f h s n ≤ 99 := by
  intro n
  have hc := m_cools_b (k := k) hf
  induction n with
  | zero => exact hh
  | succ n ih =>
    show 0 ≤ m_mx 0 _ ∧ m_mx 0 _ ≤ 99
    unfold m_mx
    (repeat' split) <;> omega
def m_ab (a : RW) (d n t v : Int) : Nat → Int
  | 0 => 0
  | s + 1 => m_ab a d n t v s + (if m_gives (aD a d 0) (aD a d 1) (m_hb (aD a d 0) (aD a d 1) (aD a d 4) s n.toNat) ≤ v then m_wt s t n.toNat else 0)
def m_al (n t : Int) : Nat → Int
  | 0 => 0
  | s + 1 => m_al n t s + m_wt s t n.toNat
theorem m_ab_s {a : RW} {d n t v i : Int} (h : 0 ≤ i) : m_ab a d n t v (i + 1).toNat = m_ab a d n t v i.toNat + (if m_gives (aD a d 0) (aD a d 1) (m_hb (aD a d 0) (aD a d 1) (aD a d 4) i n.toNat) ≤ v then m_wt i t n.toNat else 0) := by
  obtain ⟨k, rfl⟩ := Int.eq_ofNat_of_zero_le h
  rfl
theorem m_al_s {n t i : Int} (h : 0 ≤ i) : m_al n t (i + 1).toNat = m_al n t i.toNat + m_wt i t n.toNat := by
  obtain ⟨k, rfl⟩ := Int.eq_ofNat_of_zero_le h
  rfl
theorem m_al_all {n t : Int} (hn : 0 ≤ n ∧ n ≤ 7) (ht : 2 ≤ t ∧ t ≤ 20) : m_al n t (2 ^ n.toNat) = t ^ n.toNat := by
  have key : ∀ x : Fin 8, ∀ y : Fin 21, m_al ((x : Nat) : Int) ((y : Nat) : Int) (2 ^ (x : Nat)) = ((y : Nat) : Int) ^ (x : Nat) := by decide +kernel
  have := key ⟨n.toNat, by omega⟩ ⟨t.toNat, by omega⟩
  rw [show (((⟨n.toNat, by omega⟩ : Fin 8) : Nat) : Int) = n by show ((n.toNat : Nat) : Int) = n; omega, show (((⟨t.toNat, by omega⟩ : Fin 21) : Nat) : Int) = t by show ((t.toNat : Nat) : Int) = t; omega] at this
  exact this
theorem ib_shl_2 {n : Int} (h : 0 ≤ n ∧ n ≤ 7) : ib_shl 1 n = 2 ^ n.toNat ∧ (2 : Int) ^ n.toNat ≤ 128 ∧ 0 < (2 : Int) ^ n.toNat := by
  have key : ∀ k : Fin 8, ib_shl 1 ((k : Nat) : Int) = 2 ^ (k : Nat) ∧ (2 : Int) ^ (k : Nat) ≤ 128 ∧ 0 < (2 : Int) ^ (k : Nat) := by decide +kernel
  have := key ⟨n.toNat, by omega⟩
  rw [show (((⟨n.toNat, by omega⟩ : Fin 8) : Nat) : Int) = n by show ((n.toNat : Nat) : Int) = n; omega] at this
  exact this
theorem pow_t {t : Int} (ht : 2 ≤ t ∧ t ≤ 20) : ∀ n : Nat, 0 < t ^ n ∧ t ^ n ≤ 20 ^ n := by
  intro n
  induction n with
  | zero => exact ⟨by rw [Int.pow_zero]; omega, by rw [Int.pow_zero, Int.pow_zero]; omega⟩
  | succ n ih =>
    rw [Int.pow_succ, Int.pow_succ]
    exact ⟨Int.mul_pos ih.1 (by omega), Int.mul_le_mul ih.2 ht.2 (by omega) (by omega)⟩
def A_draught (M : KS) (d n t v p : Int) : Int × KS := if ¬ (0 ≤ d ∧ d < M 39 0) then (4000000000000000001, rfM M (-1)) else if n < 0 ∨ v < 0 ∨ t < 2 then (4000000000000000004, rfM M (-4)) else if 7 < n ∨ 20 < t ∨ 99 < v then (4000000000000000006, rfM M (-6)) else if ¬ (0 ≤ p ∧ p ≤ 1) then (4000000000000000002, rfM M (-2)) else (m_po (m_ab (M 39) d n t v (2 ^ n.toNat)) (t ^ n.toNat) p, M)
theorem ev_X4_weightOf {s n t : Int} (hs : 0 ≤ s ∧ s < 128) (hn : 0 ≤ n ∧ n ≤ 7) (ht : 2 ≤ t ∧ t ≤ 20) : Ev l yX4_weightOf cX4_weightOf 6 (some .long) 0 0 [ki s, ki n, ki t] σ (Rt (some (kj (m_wt s t n.toNat))) σ) := by
  refine ev_intro ym_X4_weightOf.1 (Nat.le_of_ble_eq_true rfl) (fun hv hσ K S => ?_)
  have hv := hv
  show K 0 [some (ki s), some (ki n), some (ki t), none, none, none] [] σ
  refine kq_use (kq_for (α := Int) n (fun i w => 0 ≤ i ∧ w = m_wt s t i.toNat) (fun i w => K 5 [some (ki s), some (ki n), some (ki t), some (kj w), none, some (ki i)] [] σ) ?_) (fun lp => ?_)
  · intro i w hi inv ih
    obtain ⟨i0, hw⟩ := inv
    have hb := m_wt_b (s := s) ht i.toNat
    have hp := p20_b (n := i.toNat) (by omega)
    rw [← hw] at hb
    refine ks_iload (n := 7) S dX4_weightOf_5 rfl rfl ?_
    refine ks_iload_n (n := 8) S dX4_weightOf_7 rfl rfl ?_
    refine ks_icmp_ge (n := 11) (tgt := 33) S dX4_weightOf_8 rfl rfl (fun h8 => ?_) (fun h8 => ?_)
    · skip
      refine ks_lload_n (n := 34) S dX4_weightOf_33 rfl rfl ?_
      refine ks_lret S dX4_weightOf_34 ?_
      exact rt_j (by rw [hw, show i = n by omega])
    · skip
      refine ks_iload_n (n := 12) S dX4_weightOf_11 rfl rfl ?_
      refine ks_iload (n := 14) S dX4_weightOf_12 rfl rfl ?_
      refine ks_ishr (n := 15) S dX4_weightOf_14 rfl ?_
      refine ks_iconst (n := 16) S dX4_weightOf_15 rfl (by unfold iv; decide) ?_
      refine ks_iand (n := 17) S dX4_weightOf_16 rfl ?_
      rw [show ib_and (ib_shr s i) 1 = m_bt s i from rfl]
      have h01 := m_bt_01 (s := s) (k := i) hs (by omega)
      refine ks_if_ne (n := 20) (tgt := 27) S dX4_weightOf_17 rfl rfl (fun h17 => ?_) (fun h17 => ?_)
      · skip
        refine ks_iinc (n := 30) S dX4_weightOf_27 rfl rfl (by omega) (L' := fun yy => [some (ki s), some (ki n), some (ki t), some (kj w), none, some (ki yy)]) (fun _ => rfl) (fun v5_27 hv27 => ?_)
        subst v5_27
        refine ks_goto (n := 5) S dX4_weightOf_30 rfl ?_
        refine ih _ (by omega) ⟨by omega, ?_⟩
        rw [m_wt_s i0, ← hw]
        first | (rw [if_neg (by omega)]; done) | (rw [if_pos (by omega), Int.mul_one])
      · skip
        refine ks_lload_n (n := 21) S dX4_weightOf_20 rfl rfl ?_
        refine ks_iload_n (n := 22) S dX4_weightOf_21 rfl rfl ?_
        refine ks_iconst (n := 23) S dX4_weightOf_22 rfl (by unfold iv; decide) ?_
        refine ks_isub (n := 24) S dX4_weightOf_23 rfl (by omega) ?_
        refine ks_i2l (n := 25) S dX4_weightOf_24 rfl ?_
        have e1 : 0 ≤ w * (t - 1) := Int.mul_nonneg hb.1 (by omega)
        have e2 : w * (t - 1) ≤ 1280000000 * 19 := Int.mul_le_mul (by omega) (by omega) (by omega) (by omega)
        refine ks_lmul (n := 26) S dX4_weightOf_25 rfl (by omega) ?_
        refine ks_lstore_n (n := 27) S dX4_weightOf_26 rfl rfl (L' := fun yy => [some (ki s), some (ki n), some (ki t), some (kj yy), none, some (ki i)]) (Nat.le_of_ble_eq_true rfl) (fun _ => rfl) (fun v3_26 hv26 => ?_)
        subst v3_26
        refine ks_iinc (n := 30) S dX4_weightOf_27 rfl rfl (by omega) (L' := fun yy => [some (ki s), some (ki n), some (ki t), some (kj _), none, some (ki yy)]) (fun _ => rfl) (fun v5_27 hv27 => ?_)
        subst v5_27
        refine ks_goto (n := 5) S dX4_weightOf_30 rfl ?_
        refine ih _ (by omega) ⟨by omega, ?_⟩
        rw [m_wt_s i0, ← hw]
        first | (rw [if_neg (by omega)]; done) | (rw [if_pos (by omega), Int.mul_one])
  refine ks_lconst (n := 1) (y := 1) S dX4_weightOf_0 rfl (by unfold jv; decide) ?_
  refine ks_lstore_n (n := 2) S dX4_weightOf_1 rfl rfl (L' := fun yy => [some (ki s), some (ki n), some (ki t), some (kj yy), none, none]) (Nat.le_of_ble_eq_true rfl) (fun _ => rfl) (fun v3_1 hv1 => ?_)
  subst v3_1
  refine ks_iconst (n := 3) S dX4_weightOf_2 rfl (by unfold iv; decide) ?_
  refine ks_istore (n := 5) S dX4_weightOf_3 rfl (L' := fun yy => [some (ki s), some (ki n), some (ki t), some (kj _), none, some (ki yy)]) (Nat.le_of_ble_eq_true rfl) (fun _ => rfl) (fun v5_3 hv3 => ?_)
  obtain rfl : v5_3 = 0 := by omega
  exact lp 0 1 hn.1 ⟨by omega, rfl⟩
theorem ev_X4_givenBehind {d n s : Int} (hM : OkM M) (hC : RC σ M) (hd : 0 ≤ d ∧ d < M 39 0) (hn : 0 ≤ n ∧ n ≤ 7) : Ev l yX4_givenBehind cX4_givenBehind 8 (some .int) 2 44 [kr 0, ki d, ki n, ki s] σ (Rt (some (ki (m_gives (aD (M 39) d 0) (aD (M 39) d 1) (m_hb (aD (M 39) d 0) (aD (M 39) d 1) (aD (M 39) d 4) s n.toNat)))) σ) := by
  have R := hC.1
  have ok := hM.1
  have n9 := ok.1
  obtain ⟨o1, o2, o3, o4, o5, o6, o7, o8⟩ := ok.2.2.2.1 d hd.1 hd.2
  obtain ⟨e1, e2, e3, e4, e5, e6⟩ := R.2.2.2.1 d hd.1 hd.2
  generalize hk : aD (M 39) d 0 = k at *
  generalize hf : aD (M 39) d 1 = f at *
  generalize hh : aD (M 39) d 4 = h at *
  refine ev_intro ym_X4_givenBehind.1 (Nat.le_of_ble_eq_true rfl) (fun hv hσ K S => ?_)
  have hv := hv
  show K 0 [some (kr 0), some (ki d), some (ki n), some (ki s), none, none, none, none] [] σ
  refine kq_use (kq_for (α := Int) n (fun i w => 0 ≤ i ∧ w = m_hb k f h s i.toNat) (fun i w => K 36 [some (kr 0), some (ki d), some (ki n), some (ki s), some (ki k), some (ki f), some (ki w), some (ki i)] [] σ) ?_) (fun lp => ?_)
  · intro i w hi inv ih
    obtain ⟨i0, hw⟩ := inv
    have hb := m_hb_b (k := k) (s := s) o2 o6 i.toNat
    rw [← hw] at hb
    refine ks_iload (n := 38) S dX4_givenBehind_36 rfl rfl ?_
    refine ks_iload_n (n := 39) S dX4_givenBehind_38 rfl rfl ?_
    refine ks_icmp_ge (n := 42) (tgt := 76) S dX4_givenBehind_39 rfl rfl (fun h39 => ?_) (fun h39 => ?_)
    · skip
      refine ks_iload (n := 78) S dX4_givenBehind_76 rfl rfl ?_
      refine ks_iload (n := 80) S dX4_givenBehind_78 rfl rfl ?_
      refine ks_iload (n := 82) S dX4_givenBehind_80 rfl rfl ?_
      refine kf_s3i (n := 85) S dX4_givenBehind_82 rfl ml_X4_258 ym_X1_gives (ev_X1_gives o2 (by omega)) (by decide) (Nat.le_of_ble_eq_true rfl) ?_
      refine ks_iret S dX4_givenBehind_85 ?_
      exact rt_e (by rw [hw, show i = n by omega])
    · skip
      refine ks_iload_n (n := 43) S dX4_givenBehind_42 rfl rfl ?_
      refine ks_iload (n := 45) S dX4_givenBehind_43 rfl rfl ?_
      refine ks_ishr (n := 46) S dX4_givenBehind_45 rfl ?_
      refine ks_iconst (n := 47) S dX4_givenBehind_46 rfl (by unfold iv; decide) ?_
      refine ks_iand (n := 48) S dX4_givenBehind_47 rfl ?_
      rw [show ib_and (ib_shr s i) 1 = m_bt s i from rfl]
      refine ks_iconst (n := 49) S dX4_givenBehind_48 rfl (by unfold iv; decide) ?_
      refine ks_icmp_ne (n := 52) (tgt := 58) S dX4_givenBehind_49 rfl rfl (fun h49 => ?_) (fun h49 => ?_)
      · skip
        refine ks_iload (n := 60) S dX4_givenBehind_58 rfl rfl ?_
        refine ks_iload (n := 62) S dX4_givenBehind_60 rfl rfl ?_
        refine ks_iload (n := 64) S dX4_givenBehind_62 rfl rfl ?_
        refine ks_iconst (n := 65) S dX4_givenBehind_64 rfl (by unfold iv; decide) ?_
        refine kf_s4i (n := 68) S dX4_givenBehind_65 rfl ml_X4_252 ym_X1_cooled (ev_X1_cooled o2 (by omega) (by omega)) (by decide) (Nat.le_of_ble_eq_true rfl) ?_
        refine ks_istore (n := 70) S dX4_givenBehind_68 rfl (L' := fun yy => [some (kr 0), some (ki d), some (ki n), some (ki s), some (ki k), some (ki f), some (ki yy), some (ki i)]) (Nat.le_of_ble_eq_true rfl) (fun _ => rfl) (fun v6_68 hv68 => ?_)
        subst v6_68
        refine ks_iinc (n := 73) S dX4_givenBehind_70 rfl rfl (by omega) (L' := fun yy => [some (kr 0), some (ki d), some (ki n), some (ki s), some (ki k), some (ki f), some (ki _), some (ki yy)]) (fun _ => rfl) (fun v7_70 hv70 => ?_)
        subst v7_70
        refine ks_goto (n := 36) S dX4_givenBehind_73 rfl ?_
        refine ih _ (by omega) ⟨by omega, ?_⟩
        rw [m_hb_s i0, ← hw]
        first | rw [if_neg h49] | rw [if_pos h49]
      · skip
        refine ks_iload (n := 54) S dX4_givenBehind_52 rfl rfl ?_
        refine ks_iconst (n := 55) S dX4_givenBehind_54 rfl (by unfold iv; decide) ?_
        refine ks_idiv (n := 56) S dX4_givenBehind_55 rfl (by omega) ?_
        refine ks_istore (n := 58) S dX4_givenBehind_56 rfl (L' := fun yy => [some (kr 0), some (ki d), some (ki n), some (ki s), some (ki k), some (ki f), some (ki yy), some (ki i)]) (Nat.le_of_ble_eq_true rfl) (fun _ => rfl) (fun v6_56 hv56 => ?_)
        subst v6_56
        refine ks_iload (n := 60) S dX4_givenBehind_58 rfl rfl ?_
        refine ks_iload (n := 62) S dX4_givenBehind_60 rfl rfl ?_
        refine ks_iload (n := 64) S dX4_givenBehind_62 rfl rfl ?_
        refine ks_iconst (n := 65) S dX4_givenBehind_64 rfl (by unfold iv; decide) ?_
        refine kf_s4i (n := 68) S dX4_givenBehind_65 rfl ml_X4_252 ym_X1_cooled (ev_X1_cooled o2 (by omega) (by omega)) (by decide) (Nat.le_of_ble_eq_true rfl) ?_
        refine ks_istore (n := 70) S dX4_givenBehind_68 rfl (L' := fun yy => [some (kr 0), some (ki d), some (ki n), some (ki s), some (ki k), some (ki f), some (ki yy), some (ki i)]) (Nat.le_of_ble_eq_true rfl) (fun _ => rfl) (fun v6_68 hv68 => ?_)
        subst v6_68
        refine ks_iinc (n := 73) S dX4_givenBehind_70 rfl rfl (by omega) (L' := fun yy => [some (kr 0), some (ki d), some (ki n), some (ki s), some (ki k), some (ki f), some (ki _), some (ki yy)]) (fun _ => rfl) (fun v7_70 hv70 => ?_)
        subst v7_70
        refine ks_goto (n := 36) S dX4_givenBehind_73 rfl ?_
        refine ih _ (by omega) ⟨by omega, ?_⟩
        rw [m_hb_s i0, ← hw]
        first | rw [if_neg h49] | rw [if_pos h49]
  refine ks_aload_n (n := 1) S dX4_givenBehind_0 rfl rfl ?_
  refine ks_getr (n := 4) S dX4_givenBehind_1 rfl fl_X4_10 rfl rfl ?_
  refine ks_getr (n := 7) S dX4_givenBehind_4 rfl fl_X4_78 kq_H1.o rfl ?_
  refine ks_iload_n (n := 8) S dX4_givenBehind_7 rfl rfl ?_
  refine ks_iaload (n := 9) S dX4_givenBehind_8 rfl kq_H1.a1 (by omega) ?_
  refine ks_istore (n := 11) S dX4_givenBehind_9 rfl (L' := fun yy => [some (kr 0), some (ki d), some (ki n), some (ki s), some (ki yy), none, none, none]) (Nat.le_of_ble_eq_true rfl) (fun _ => rfl) (fun v4_9 hv9 => ?_)
  subst v4_9
  refine ks_aload_n (n := 12) S dX4_givenBehind_11 rfl rfl ?_
  refine ks_getr (n := 15) S dX4_givenBehind_12 rfl fl_X4_10 rfl rfl ?_
  refine ks_getr (n := 18) S dX4_givenBehind_15 rfl fl_X4_81 kq_H1.o rfl ?_
  refine ks_iload_n (n := 19) S dX4_givenBehind_18 rfl rfl ?_
  refine ks_iaload (n := 20) S dX4_givenBehind_19 rfl kq_H1.a2 (by omega) ?_
  refine ks_istore (n := 22) S dX4_givenBehind_20 rfl (L' := fun yy => [some (kr 0), some (ki d), some (ki n), some (ki s), some (ki _), some (ki yy), none, none]) (Nat.le_of_ble_eq_true rfl) (fun _ => rfl) (fun v5_20 hv20 => ?_)
  subst v5_20
  refine ks_aload_n (n := 23) S dX4_givenBehind_22 rfl rfl ?_
  refine ks_getr (n := 26) S dX4_givenBehind_23 rfl fl_X4_10 rfl rfl ?_
  refine ks_getr (n := 29) S dX4_givenBehind_26 rfl fl_X4_90 kq_H1.o rfl ?_
  refine ks_iload_n (n := 30) S dX4_givenBehind_29 rfl rfl ?_
  refine ks_iaload (n := 31) S dX4_givenBehind_30 rfl kq_H1.a5 (by omega) ?_
  refine ks_istore (n := 33) S dX4_givenBehind_31 rfl (L' := fun yy => [some (kr 0), some (ki d), some (ki n), some (ki s), some (ki _), some (ki _), some (ki yy), none]) (Nat.le_of_ble_eq_true rfl) (fun _ => rfl) (fun v6_31 hv31 => ?_)
  subst v6_31
  refine ks_iconst (n := 34) S dX4_givenBehind_33 rfl (by unfold iv; decide) ?_
  refine ks_istore (n := 36) S dX4_givenBehind_34 rfl (L' := fun yy => [some (kr 0), some (ki d), some (ki n), some (ki s), some (ki _), some (ki _), some (ki _), some (ki yy)]) (Nat.le_of_ble_eq_true rfl) (fun _ => rfl) (fun v7_34 hv34 => ?_)
  obtain rfl : v7_34 = 0 := by omega
  rw [e1, e2, e5]
  exact lp 0 h hn.1 ⟨by omega, rfl⟩
theorem pc_draught {d n t v p : Int} (hM : OkM M) (hC : RC σ M) : Ev l yX4_draught cX4_draught 13 (some .long) 3 71 [kr 0, ki d, ki n, ki t, ki v, ki p] σ (QCj (A_draught M d n t v p) σ) := by
  have R := hC.1
  have ok := hM.1
  have n9 := ok.1
  refine ev_intro ym_X4_draught.1 (Nat.le_of_ble_eq_true rfl) (fun hv hσ K S => ?_)
  have hv := hv
  show K 0 [some (kr 0), some (ki d), some (ki n), some (ki t), some (ki v), some (ki p), none, none, none, none, none, none, none] [] σ
  refine kq_use (fun (hd : 0 ≤ d ∧ d < M 39 0) (hn : 0 ≤ n ∧ n ≤ 7) (ht : 2 ≤ t ∧ t ≤ 20) (hv9 : 0 ≤ v ∧ v ≤ 99) (hp : 0 ≤ p ∧ p ≤ 1) => kq_for (α := Int × Int) (2 ^ n.toNat) (fun i s => 0 ≤ i ∧ s.1 = m_ab (M 39) d n t v i.toNat ∧ s.2 = m_al n t i.toNat ∧ (0 ≤ s.1 ∧ s.1 ≤ 1280000000 * i) ∧ (0 ≤ s.2 ∧ s.2 ≤ 1280000000 * i)) (fun i s => K 91 [some (kr 0), some (ki d), some (ki n), some (ki t), some (ki v), some (ki p), some (kj s.1), none, some (kj s.2), none, some (ki i), none, none] [] σ) ?_) (fun lp => ?_)
  · intro i s hi inv ih
    obtain ⟨u, w⟩ := s
    obtain ⟨i0, hu, hw, bu, bw⟩ := inv
    dsimp only at hu hw bu bw ⊢
    obtain ⟨hs1, hs2, hs3⟩ := ib_shl_2 hn
    have hb := m_wt_b (s := i) ht n.toNat
    have hp2 := p20_b (n := n.toNat) (by omega)
    have hpt := pow_t ht n.toNat
    refine ks_iload (n := 93) S dX4_draught_91 rfl rfl ?_
    refine ks_iconst (n := 94) S dX4_draught_93 rfl (by unfold iv; decide) ?_
    refine ks_iload_n (n := 95) S dX4_draught_94 rfl rfl ?_
    refine ks_ishl (n := 96) S dX4_draught_95 rfl ?_
    refine ks_icmp_ge (n := 99) (tgt := 141) S dX4_draught_96 rfl rfl (fun h96 => ?_) (fun h96 => ?_)
    · skip
      have hie : i.toNat = 2 ^ n.toNat := by
        have : (i.toNat : Int) = ((2 ^ n.toNat : Nat) : Int) := by push_cast; omega
        exact_mod_cast this
      rw [hie] at hu hw
      rw [m_al_all hn ht] at hw
      refine ks_lload (n := 143) S dX4_draught_141 rfl rfl ?_
      refine ks_lload (n := 145) S dX4_draught_143 rfl rfl ?_
      refine ks_iload (n := 147) S dX4_draught_145 rfl rfl ?_
      refine kf_s3j (n := 150) S dX4_draught_147 rfl ml_X4_248 ym_X4_partOf (ev_X4_partOf (by omega) (by omega)) (by decide) (Nat.le_of_ble_eq_true rfl) ?_
      refine ks_lret S dX4_draught_150 ?_
      refine qcj_mk hC (fun _ _ => rfl) ?_
      unfold A_draught
      rw [if_neg (by omega), if_neg (by omega), if_neg (by omega), if_neg (by omega), hu, hw]
    · skip
      refine ks_iload (n := 101) S dX4_draught_99 rfl rfl ?_
      refine ks_iload_n (n := 102) S dX4_draught_101 rfl rfl ?_
      refine ks_iload_n (n := 103) S dX4_draught_102 rfl rfl ?_
      refine kf_s3j (n := 106) S dX4_draught_103 rfl ml_X4_241 ym_X4_weightOf (ev_X4_weightOf (by omega) hn ht) (by decide) (Nat.le_of_ble_eq_true rfl) ?_
      refine ks_lstore (n := 108) S dX4_draught_106 rfl (L' := fun yy => [some (kr 0), some (ki d), some (ki n), some (ki t), some (ki v), some (ki p), some (kj u), none, some (kj w), none, some (ki i), some (kj yy), none]) (Nat.le_of_ble_eq_true rfl) (fun _ => rfl) (fun v11_106 hv106 => ?_)
      subst v11_106
      refine ks_lload (n := 110) S dX4_draught_108 rfl rfl ?_
      refine ks_lload (n := 112) S dX4_draught_110 rfl rfl ?_
      refine ks_ladd (n := 113) S dX4_draught_112 rfl (by omega) ?_
      refine ks_lstore (n := 115) S dX4_draught_113 rfl (L' := fun yy => [some (kr 0), some (ki d), some (ki n), some (ki t), some (ki v), some (ki p), some (kj u), none, some (kj yy), none, some (ki i), some (kj _), none]) (Nat.le_of_ble_eq_true rfl) (fun _ => rfl) (fun v8_113 hv113 => ?_)
      subst v8_113
      refine ks_aload_n (n := 116) S dX4_draught_115 rfl rfl ?_
      refine ks_iload_n (n := 117) S dX4_draught_116 rfl rfl ?_
      refine ks_iload_n (n := 118) S dX4_draught_117 rfl rfl ?_
      refine ks_iload (n := 120) S dX4_draught_118 rfl rfl ?_
      refine kf_v3i (n := 123) S dX4_draught_120 rfl ml_X4_245 ym_X4_givenBehind (ev_X4_givenBehind hM hC hd hn) (by decide) rfl (Nat.le_of_ble_eq_true rfl) ?_
      refine ks_iload (n := 125) S dX4_draught_123 rfl rfl ?_
      refine ks_icmp_gt (n := 128) (tgt := 135) S dX4_draught_125 rfl rfl (fun h125 => ?_) (fun h125 => ?_)
      · skip
        refine ks_iinc (n := 138) S dX4_draught_135 rfl rfl (by omega) (L' := fun yy => [some (kr 0), some (ki d), some (ki n), some (ki t), some (ki v), some (ki p), some (kj u), none, some (kj _), none, some (ki yy), some (kj _), none]) (fun _ => rfl) (fun v10_135 hv135 => ?_)
        subst v10_135
        refine ks_goto (n := 91) S dX4_draught_138 rfl ?_
        refine ks_weak (L' := [some (kr 0), some (ki d), some (ki n), some (ki t), some (ki v), some (ki p), some (kj u), none, some (kj _), none, some (ki _), none, none]) S ((And.intro rfl (And.intro rfl (And.intro rfl (And.intro rfl (And.intro rfl (And.intro rfl (And.intro rfl (And.intro rfl (And.intro rfl True.intro)))))))))) ?_
        refine ih (_, _) (by omega) ⟨by omega, ?_, ?_, ⟨by dsimp only; omega, by dsimp only; omega⟩, ⟨by dsimp only; omega, by dsimp only; omega⟩⟩
        · dsimp only
          rw [m_ab_s i0, ← hu]
          first | (rw [if_neg (by omega), Int.add_zero]; done) | (rw [if_pos (by omega)]; done)
        · dsimp only
          rw [m_al_s i0, ← hw]
      · skip
        refine ks_lload (n := 130) S dX4_draught_128 rfl rfl ?_
        refine ks_lload (n := 132) S dX4_draught_130 rfl rfl ?_
        refine ks_ladd (n := 133) S dX4_draught_132 rfl (by omega) ?_
        refine ks_lstore (n := 135) S dX4_draught_133 rfl (L' := fun yy => [some (kr 0), some (ki d), some (ki n), some (ki t), some (ki v), some (ki p), some (kj yy), none, some (kj _), none, some (ki i), some (kj _), none]) (Nat.le_of_ble_eq_true rfl) (fun _ => rfl) (fun v6_133 hv133 => ?_)
        subst v6_133
        refine ks_iinc (n := 138) S dX4_draught_135 rfl rfl (by omega) (L' := fun yy => [some (kr 0), some (ki d), some (ki n), some (ki t), some (ki v), some (ki p), some (kj _), none, some (kj _), none, some (ki yy), some (kj _), none]) (fun _ => rfl) (fun v10_135 hv135 => ?_)
        subst v10_135
        refine ks_goto (n := 91) S dX4_draught_138 rfl ?_
        refine ks_weak (L' := [some (kr 0), some (ki d), some (ki n), some (ki t), some (ki v), some (ki p), some (kj _), none, some (kj _), none, some (ki _), none, none]) S ((And.intro rfl (And.intro rfl (And.intro rfl (And.intro rfl (And.intro rfl (And.intro rfl (And.intro rfl (And.intro rfl (And.intro rfl True.intro)))))))))) ?_
        refine ih (_, _) (by omega) ⟨by omega, ?_, ?_, ⟨by dsimp only; omega, by dsimp only; omega⟩, ⟨by dsimp only; omega, by dsimp only; omega⟩⟩
        · dsimp only
          rw [m_ab_s i0, ← hu]
          first | (rw [if_neg (by omega), Int.add_zero]; done) | (rw [if_pos (by omega)]; done)
        · dsimp only
          rw [m_al_s i0, ← hw]
  refine ks_aload_n (n := 1) S dX4_draught_0 rfl rfl ?_
  refine ks_getr (n := 4) S dX4_draught_1 rfl fl_X4_10 rfl rfl ?_
  refine ks_iload_n (n := 5) S dX4_draught_4 rfl rfl ?_
  refine kf_v1z (n := 8) S dX4_draught_5 rfl ml_X4_74 ym_X0_hasDoor (ev_X0_hasDoor kq_H1 R) (by decide) kq_H1.o (Nat.le_of_ble_eq_true rfl) ?_
  refine ks_if_ne (n := 11) (tgt := 17) S dX4_draught_8 rfl rfl (fun h8 => ?_) (fun h8 => ?_)
  · skip
    simp only [bi_eq, bi_ne, Classical.not_not] at h8
    refine ks_iload_n (n := 18) S dX4_draught_17 rfl rfl ?_
    refine ks_if_lt (n := 21) (tgt := 31) S dX4_draught_18 rfl rfl (fun h18 => ?_) (fun h18 => ?_)
    · skip
      refine ks_aload_n (n := 32) S dX4_draught_31 rfl rfl ?_
      refine ks_bipush (n := 34) S dX4_draught_32 rfl (by unfold iv; decide) ?_
      refine kf_v1j (n := 37) S dX4_draught_34 rfl ml_X4_237 ym_X4_refuseLong (ev_X4_refuseLong (by omega)) (by decide) rfl (Nat.le_of_ble_eq_true rfl) ?_
      refine ks_lret S dX4_draught_37 ?_
      exact qcj_mk (hC.ref (by omega)) (fun c hc => funext fun j => kq_up_c (by omega)) (by unfold A_draught; (repeat' split) <;> first | rfl | omega)
    · skip
      refine ks_iload (n := 23) S dX4_draught_21 rfl rfl ?_
      refine ks_if_lt (n := 26) (tgt := 31) S dX4_draught_23 rfl rfl (fun h23 => ?_) (fun h23 => ?_)
      · skip
        refine ks_aload_n (n := 32) S dX4_draught_31 rfl rfl ?_
        refine ks_bipush (n := 34) S dX4_draught_32 rfl (by unfold iv; decide) ?_
        refine kf_v1j (n := 37) S dX4_draught_34 rfl ml_X4_237 ym_X4_refuseLong (ev_X4_refuseLong (by omega)) (by decide) rfl (Nat.le_of_ble_eq_true rfl) ?_
        refine ks_lret S dX4_draught_37 ?_
        exact qcj_mk (hC.ref (by omega)) (fun c hc => funext fun j => kq_up_c (by omega)) (by unfold A_draught; (repeat' split) <;> first | rfl | omega)
      · skip
        refine ks_iload_n (n := 27) S dX4_draught_26 rfl rfl ?_
        refine ks_iconst (n := 28) S dX4_draught_27 rfl (by unfold iv; decide) ?_
        refine ks_icmp_ge (n := 31) (tgt := 38) S dX4_draught_28 rfl rfl (fun h28 => ?_) (fun h28 => ?_)
        · skip
          refine ks_iload_n (n := 39) S dX4_draught_38 rfl rfl ?_
          refine ks_bipush (n := 41) S dX4_draught_39 rfl (by unfold iv; decide) ?_
          refine ks_icmp_gt (n := 44) (tgt := 57) S dX4_draught_41 rfl rfl (fun h41 => ?_) (fun h41 => ?_)
          · skip
            refine ks_aload_n (n := 58) S dX4_draught_57 rfl rfl ?_
            refine ks_bipush (n := 60) S dX4_draught_58 rfl (by unfold iv; decide) ?_
            refine kf_v1j (n := 63) S dX4_draught_60 rfl ml_X4_237 ym_X4_refuseLong (ev_X4_refuseLong (by omega)) (by decide) rfl (Nat.le_of_ble_eq_true rfl) ?_
            refine ks_lret S dX4_draught_63 ?_
            exact qcj_mk (hC.ref (by omega)) (fun c hc => funext fun j => kq_up_c (by omega)) (by unfold A_draught; (repeat' split) <;> first | rfl | omega)
          · skip
            refine ks_iload_n (n := 45) S dX4_draught_44 rfl rfl ?_
            refine ks_bipush (n := 47) S dX4_draught_45 rfl (by unfold iv; decide) ?_
            refine ks_icmp_gt (n := 50) (tgt := 57) S dX4_draught_47 rfl rfl (fun h47 => ?_) (fun h47 => ?_)
            · skip
              refine ks_aload_n (n := 58) S dX4_draught_57 rfl rfl ?_
              refine ks_bipush (n := 60) S dX4_draught_58 rfl (by unfold iv; decide) ?_
              refine kf_v1j (n := 63) S dX4_draught_60 rfl ml_X4_237 ym_X4_refuseLong (ev_X4_refuseLong (by omega)) (by decide) rfl (Nat.le_of_ble_eq_true rfl) ?_
              refine ks_lret S dX4_draught_63 ?_
              exact qcj_mk (hC.ref (by omega)) (fun c hc => funext fun j => kq_up_c (by omega)) (by unfold A_draught; (repeat' split) <;> first | rfl | omega)
            · skip
              refine ks_iload (n := 52) S dX4_draught_50 rfl rfl ?_
              refine ks_bipush (n := 54) S dX4_draught_52 rfl (by unfold iv; decide) ?_
              refine ks_icmp_le (n := 57) (tgt := 64) S dX4_draught_54 rfl rfl (fun h54 => ?_) (fun h54 => ?_)
              · skip
                refine ks_iload (n := 66) S dX4_draught_64 rfl rfl ?_
                refine ks_if_eq (n := 69) (tgt := 82) S dX4_draught_66 rfl rfl (fun h66 => ?_) (fun h66 => ?_)
                · skip
                  refine ks_lconst (n := 83) (y := 0) S dX4_draught_82 rfl (by unfold jv; decide) ?_
                  refine ks_lstore (n := 85) S dX4_draught_83 rfl (L' := fun yy => [some (kr 0), some (ki d), some (ki n), some (ki t), some (ki v), some (ki p), some (kj yy), none, none, none, none, none, none]) (Nat.le_of_ble_eq_true rfl) (fun _ => rfl) (fun v6_83 hv83 => ?_)
                  subst v6_83
                  refine ks_lconst (n := 86) (y := 0) S dX4_draught_85 rfl (by unfold jv; decide) ?_
                  refine ks_lstore (n := 88) S dX4_draught_86 rfl (L' := fun yy => [some (kr 0), some (ki d), some (ki n), some (ki t), some (ki v), some (ki p), some (kj _), none, some (kj yy), none, none, none, none]) (Nat.le_of_ble_eq_true rfl) (fun _ => rfl) (fun v8_86 hv86 => ?_)
                  subst v8_86
                  refine ks_iconst (n := 89) S dX4_draught_88 rfl (by unfold iv; decide) ?_
                  refine ks_istore (n := 91) S dX4_draught_89 rfl (L' := fun yy => [some (kr 0), some (ki d), some (ki n), some (ki t), some (ki v), some (ki p), some (kj _), none, some (kj _), none, some (ki yy), none, none]) (Nat.le_of_ble_eq_true rfl) (fun _ => rfl) (fun v10_89 hv89 => ?_)
                  obtain rfl : v10_89 = 0 := by omega
                  exact lp (by omega) (by omega) (by omega) (by omega) (by omega) 0 (0, 0) (by obtain ⟨-, -, h⟩ := ib_shl_2 (n := n) (by omega); omega) ⟨by omega, rfl, rfl, ⟨by omega, by omega⟩, ⟨by omega, by omega⟩⟩
                · skip
                  refine ks_iload (n := 71) S dX4_draught_69 rfl rfl ?_
                  refine ks_iconst (n := 72) S dX4_draught_71 rfl (by unfold iv; decide) ?_
                  refine ks_icmp_eq (n := 75) (tgt := 82) S dX4_draught_72 rfl rfl (fun h72 => ?_) (fun h72 => ?_)
                  · skip
                    refine ks_lconst (n := 83) (y := 0) S dX4_draught_82 rfl (by unfold jv; decide) ?_
                    refine ks_lstore (n := 85) S dX4_draught_83 rfl (L' := fun yy => [some (kr 0), some (ki d), some (ki n), some (ki t), some (ki v), some (ki p), some (kj yy), none, none, none, none, none, none]) (Nat.le_of_ble_eq_true rfl) (fun _ => rfl) (fun v6_83 hv83 => ?_)
                    subst v6_83
                    refine ks_lconst (n := 86) (y := 0) S dX4_draught_85 rfl (by unfold jv; decide) ?_
                    refine ks_lstore (n := 88) S dX4_draught_86 rfl (L' := fun yy => [some (kr 0), some (ki d), some (ki n), some (ki t), some (ki v), some (ki p), some (kj _), none, some (kj yy), none, none, none, none]) (Nat.le_of_ble_eq_true rfl) (fun _ => rfl) (fun v8_86 hv86 => ?_)
                    subst v8_86
                    refine ks_iconst (n := 89) S dX4_draught_88 rfl (by unfold iv; decide) ?_
                    refine ks_istore (n := 91) S dX4_draught_89 rfl (L' := fun yy => [some (kr 0), some (ki d), some (ki n), some (ki t), some (ki v), some (ki p), some (kj _), none, some (kj _), none, some (ki yy), none, none]) (Nat.le_of_ble_eq_true rfl) (fun _ => rfl) (fun v10_89 hv89 => ?_)
                    obtain rfl : v10_89 = 0 := by omega
                    exact lp (by omega) (by omega) (by omega) (by omega) (by omega) 0 (0, 0) (by obtain ⟨-, -, h⟩ := ib_shl_2 (n := n) (by omega); omega) ⟨by omega, rfl, rfl, ⟨by omega, by omega⟩, ⟨by omega, by omega⟩⟩
                  · skip
                    refine ks_aload_n (n := 76) S dX4_draught_75 rfl rfl ?_
                    refine ks_bipush (n := 78) S dX4_draught_76 rfl (by unfold iv; decide) ?_
                    refine kf_v1j (n := 81) S dX4_draught_78 rfl ml_X4_237 ym_X4_refuseLong (ev_X4_refuseLong (by omega)) (by decide) rfl (Nat.le_of_ble_eq_true rfl) ?_
                    refine ks_lret S dX4_draught_81 ?_
                    exact qcj_mk (hC.ref (by omega)) (fun c hc => funext fun j => kq_up_c (by omega)) (by unfold A_draught; (repeat' split) <;> first | rfl | omega)
              · skip
                refine ks_aload_n (n := 58) S dX4_draught_57 rfl rfl ?_
                refine ks_bipush (n := 60) S dX4_draught_58 rfl (by unfold iv; decide) ?_
                refine kf_v1j (n := 63) S dX4_draught_60 rfl ml_X4_237 ym_X4_refuseLong (ev_X4_refuseLong (by omega)) (by decide) rfl (Nat.le_of_ble_eq_true rfl) ?_
                refine ks_lret S dX4_draught_63 ?_
                exact qcj_mk (hC.ref (by omega)) (fun c hc => funext fun j => kq_up_c (by omega)) (by unfold A_draught; (repeat' split) <;> first | rfl | omega)
        · skip
          refine ks_aload_n (n := 32) S dX4_draught_31 rfl rfl ?_
          refine ks_bipush (n := 34) S dX4_draught_32 rfl (by unfold iv; decide) ?_
          refine kf_v1j (n := 37) S dX4_draught_34 rfl ml_X4_237 ym_X4_refuseLong (ev_X4_refuseLong (by omega)) (by decide) rfl (Nat.le_of_ble_eq_true rfl) ?_
          refine ks_lret S dX4_draught_37 ?_
          exact qcj_mk (hC.ref (by omega)) (fun c hc => funext fun j => kq_up_c (by omega)) (by unfold A_draught; (repeat' split) <;> first | rfl | omega)
  · skip
    simp only [bi_eq, bi_ne, Classical.not_not] at h8
    refine ks_aload_n (n := 12) S dX4_draught_11 rfl rfl ?_
    refine ks_iconst (n := 13) S dX4_draught_12 rfl (by unfold iv; decide) ?_
    refine kf_v1j (n := 16) S dX4_draught_13 rfl ml_X4_237 ym_X4_refuseLong (ev_X4_refuseLong (by omega)) (by decide) rfl (Nat.le_of_ble_eq_true rfl) ?_
    refine ks_lret S dX4_draught_16 ?_
    exact qcj_mk (hC.ref (by omega)) (fun c hc => funext fun j => kq_up_c (by omega)) (by unfold A_draught; (repeat' split) <;> first | rfl | omega)
/-- all heat of the doors below n is half -/
def m_hf (b : RW) : Nat → RW
  | 0 => b
  | n + 1 => m_to (m_hf b n) n (aD (m_hf b n) n 4 / 2)
theorem m_hf_s {b : RW} {i : Int} (h : 0 ≤ i) : m_hf b (i + 1).toNat = m_to (m_hf b i.toNat) i (aD (m_hf b i.toNat) i 4 / 2) := by
  obtain ⟨n, rfl⟩ := Int.eq_ofNat_of_zero_le h
  rfl
theorem m_hf_at (a : RW) : ∀ n : Nat, n ≤ 9 → (∀ j, (j < 3 ∨ 57 ≤ j) → m_hf a n j = a j) ∧ ∀ d w, 0 ≤ d → d < 9 → 0 ≤ w → w < 6 → aD (m_hf a n) d w = if d < n then aD (m_to a d (aD a d 4 / 2)) d w else aD a d w := by
  intro n
  induction n with
  | zero => intro _; exact ⟨fun j _ => rfl, fun d w h0 h1 h2 h3 => by rw [if_neg (by omega)]; rfl⟩
  | succ n ih =>
    intro hn
    obtain ⟨i1, i2⟩ := ih (by omega)
    have e : ∀ w, 0 ≤ w → w < 6 → aD (m_hf a n) n w = aD a n w := fun w h2 h3 => by rw [i2 n w (by omega) (by omega) h2 h3, if_neg (by omega)]
    have eh : m_hf a (n + 1) = m_to (m_hf a n) n (aD a n 4 / 2) := by
      show m_to (m_hf a n) n (aD (m_hf a n) n 4 / 2) = _
      rw [e 4 (by omega) (by omega)]
    rw [eh]
    refine ⟨fun j hj => by rw [m_to_out (by omega) hj]; exact i1 j hj, fun d w h0 h1 h2 h3 => ?_⟩
    rw [m_to_at (by omega) h0 ⟨h2, h3⟩]
    by_cases hd : d = n
    · subst hd
      rw [if_pos (show ((n : Int) < ((n + 1 : Nat) : Int)) by omega), m_to_at (by omega) h0 ⟨h2, h3⟩, e w h2 h3]
    · rw [if_neg (by omega), if_neg (by omega), i2 d w h0 h1 h2 h3]
      by_cases hd2 : d < n
      · rw [if_pos hd2, if_pos (by omega)]
      · rw [if_neg hd2, if_neg (by omega)]
theorem m_hf_ok {a : RW} (ok : OkR a) (hz : Zr a) : OkR (m_hf a (a 0).toNat) ∧ Zr (m_hf a (a 0).toNat) ∧ (∀ j, j < 3 → m_hf a (a 0).toNat j = a j) ∧ ∀ d, 0 ≤ d → d < a 0 → aD (m_hf a (a 0).toNat) d 0 = aD a d 0 ∧ aD (m_hf a (a 0).toNat) d 1 = aD a d 1 ∧ aD (m_hf a (a 0).toNat) d 4 = aD a d 4 / 2 := by
  have n9 := ok.1
  obtain ⟨x1, x2⟩ := m_hf_at a (a 0).toNat (by omega)
  have z : ∀ d w, 0 ≤ d → d < a 0 → 0 ≤ w → w < 6 → aD (m_hf a (a 0).toNat) d w = if w = 4 then m_held (aD a d 4 / 2) else if w = 5 ∧ aD a d 4 / 2 ≤ 0 then 9 else aD a d w := fun d w h0 h1 h2 h3 => by
    rw [x2 d w h0 (by omega) h2 h3, if_pos (by omega), m_to_at h0 h0 ⟨h2, h3⟩]
    simp
  have zd : ∀ d, 0 ≤ d → d < a 0 → aD (m_hf a (a 0).toNat) d 0 = aD a d 0 ∧ aD (m_hf a (a 0).toNat) d 1 = aD a d 1 ∧ aD (m_hf a (a 0).toNat) d 4 = aD a d 4 / 2 := fun d h0 h1 => by
    have o6 := (ok.2.2.2.1 d h0 h1).2.2.2.2.2.1
    rw [z d 0 h0 h1 (by omega) (by omega), z d 1 h0 h1 (by omega) (by omega), z d 4 h0 h1 (by omega) (by omega)]
    refine ⟨by simp, by simp, ?_⟩
    rw [if_pos rfl]; unfold m_held; (repeat' split) <;> omega
  refine ⟨⟨by rw [x1 0 (by omega)]; exact ok.1, by rw [x1 1 (by omega)]; exact ok.2.1, by rw [x1 2 (by omega)]; exact ok.2.2.1, fun d h0 h1 => ?_, fun q h0 h1 => ?_⟩, fun j hj => by rw [x1 j (by omega)]; exact hz j hj, fun j hj => x1 j (by omega), zd⟩
  · rw [x1 0 (by omega)] at h1
    obtain ⟨o1, o2, o3, o4, o5, o6, o7, o8⟩ := ok.2.2.2.1 d h0 h1
    obtain ⟨y1, y2, y3⟩ := zd d h0 h1
    unfold OkD
    rw [y1, y2, y3, z d 2 h0 h1 (by omega) (by omega), z d 3 h0 h1 (by omega) (by omega), z d 5 h0 h1 (by omega) (by omega)]
    refine ⟨o1, o2, by simpa using o3, by simpa using o4, by simpa using o5, by omega, ?_, ?_⟩
    · rw [if_neg (by omega)]; split <;> omega
    · intro h; rw [if_neg (by omega), if_pos ⟨rfl, by omega⟩]
  · rw [x1 1 (by omega)] at h1
    have := ok.2.2.2.2 q h0 h1
    unfold OkP aP at this ⊢
    rw [x1 _ (by omega), x1 _ (by omega), x1 _ (by omega)]
    exact this
def m_dh (b : RW) (s k : Int) : RW := if m_bt s k = 1 then m_hf b (b 0).toNat else b
def m_ds (a : RW) (s : Int) : Nat → RW
  | 0 => a
  | n + 1 => m_hour (m_dh (m_ds a s n) s n)
theorem m_ds_s {a : RW} {s i : Int} (h : 0 ≤ i) : m_ds a s (i + 1).toNat = m_hour (m_dh (m_ds a s i.toNat) s i) := by
  obtain ⟨n, rfl⟩ := Int.eq_ofNat_of_zero_le h
  rfl
theorem m_dh_ok {b : RW} (ok : OkR b) (hz : Zr b) (s k : Int) : OkR (m_dh b s k) ∧ Zr (m_dh b s k) ∧ (∀ j, j < 3 → m_dh b s k j = b j) ∧ ∀ d, 0 ≤ d → d < b 0 → aD (m_dh b s k) d 0 = aD b d 0 ∧ aD (m_dh b s k) d 1 = aD b d 1 ∧ aD (m_dh b s k) d 4 = if m_bt s k = 1 then aD b d 4 / 2 else aD b d 4 := by
  unfold m_dh
  split
  · exact m_hf_ok ok hz
  · exact ⟨ok, hz, fun _ _ => rfl, fun _ _ _ => ⟨rfl, rfl, rfl⟩⟩
theorem m_ds_ok {a : RW} (ok : OkR a) (hz : Zr a) (h2 : a 2 ≤ 999) (s : Int) : ∀ n : Nat, n ≤ 7 → OkR (m_ds a s n) ∧ Zr (m_ds a s n) ∧ m_ds a s n 0 = a 0 ∧ m_ds a s n 2 = a 2 + n ∧ ∀ d, 0 ≤ d → d < a 0 → aD (m_ds a s n) d 0 = aD a d 0 ∧ aD (m_ds a s n) d 1 = aD a d 1 ∧ aD (m_ds a s n) d 4 = m_hb (aD a d 0) (aD a d 1) (aD a d 4) s n := by
  intro n
  induction n with
  | zero => intro _; exact ⟨ok, hz, rfl, by show a 2 = a 2 + ((0 : Nat) : Int); omega, fun _ _ _ => ⟨rfl, rfl, rfl⟩⟩
  | succ n ih =>
    intro hn
    obtain ⟨i1, i2, i3, i4, i5⟩ := ih (by omega)
    obtain ⟨j1, j2, j3, j4⟩ := m_dh_ok i1 i2 s n
    have P := m_hour_pass j1
    have e2 : m_dh (m_ds a s n) s n 2 = a 2 + n := by rw [j3 2 (by omega)]; exact i4
    have e0 : m_dh (m_ds a s n) s n 0 = a 0 := by rw [j3 0 (by omega)]; exact i3
    refine ⟨P.ok j1 (by omega) (by omega), m_hour_z j1 j2, ?_, ?_, fun d h0 h1 => ?_⟩
    · show m_hour _ 0 = _; rw [P.1]; exact e0
    · show m_hour _ 2 = _; rw [P.2.2.1, e2]; omega
    · obtain ⟨q1, q2, q3, q4, q5, q6⟩ := P.2.2.2.1 d h0 (by omega)
      obtain ⟨k1, k2, k3⟩ := j4 d h0 (by omega)
      obtain ⟨l1, l2, l3⟩ := i5 d h0 h1
      refine ⟨q1.trans (k1.trans l1), q2.trans (k2.trans l2), ?_⟩
      show aD (m_hour _) d 4 = m_mx 0 _
      rw [q5, k3, l3]
      unfold m_cl
      rw [k1, k2, l1, l2]
theorem ev_X5_has {s k : Int} : Ev l yX5_has cX5_has 2 (some .boolean) 0 0 [ki s, ki k] σ (Rt (some (ki (bi (m_bt s k = 1)))) σ) := by
  refine ev_intro ym_X5_has.1 (Nat.le_of_ble_eq_true rfl) (fun hv hσ K S => ?_)
  have hv := hv
  show K 0 [some (ki s), some (ki k)] [] σ
  refine ks_iload_n (n := 1) S dX5_has_0 rfl rfl ?_
  refine ks_iload_n (n := 2) S dX5_has_1 rfl rfl ?_
  refine ks_ishr (n := 3) S dX5_has_2 rfl ?_
  refine ks_iconst (n := 4) S dX5_has_3 rfl (by unfold iv; decide) ?_
  refine ks_iand (n := 5) S dX5_has_4 rfl ?_
  rw [show ib_and (ib_shr s k) 1 = m_bt s k from rfl]
  refine ks_iconst (n := 6) S dX5_has_5 rfl (by unfold iv; decide) ?_
  refine ks_icmp_ne (n := 9) (tgt := 13) S dX5_has_6 rfl rfl (fun h6 => ?_) (fun h6 => ?_)
  · skip
    refine ks_iconst (n := 14) S dX5_has_13 rfl (by unfold iv; decide) ?_
    refine ks_zret S dX5_has_14 (by first | exact Or.inl rfl | exact Or.inr rfl | exact bi_01) ?_
    first | exact rt_1 (by omega) | exact rt_0 (by omega)
  · skip
    refine ks_iconst (n := 10) S dX5_has_9 rfl (by unfold iv; decide) ?_
    refine ks_goto (n := 14) S dX5_has_10 rfl ?_
    refine ks_zret S dX5_has_14 (by first | exact Or.inl rfl | exact Or.inr rfl | exact bi_01) ?_
    first | exact rt_1 (by omega) | exact rt_0 (by omega)
theorem pr_draught {d n t v p : Int} (hM : OkM M) (hR : RR σ M) : Ev l yX5_draught cX5_draught 15 (some .long) 3 64 [kr 38, ki d, ki n, ki t, ki v, ki p] σ (QRj (A_draught M d n t v p) σ) := by
  have e39 : σ 39 = M 39 := hR.1
  have ok := hM.1
  have n9 := ok.1
  have z39 := hM.2.2.1
  have h999 := hM.2.1
  have s0 : σ 39 0 = M 39 0 := by rw [e39]
  refine ev_intro ym_X5_draught.1 (Nat.le_of_ble_eq_true rfl) (fun hv hσ K S => ?_)
  have hv := hv
  show K 0 [some (kr 38), some (ki d), some (ki n), some (ki t), some (ki v), some (ki p), none, none, none, none, none, none, none, none, none] [] σ
  refine kq_use (fun (hd : 0 ≤ d ∧ d < M 39 0) (hn : 0 ≤ n ∧ n ≤ 7) (ht : 2 ≤ t ∧ t ≤ 20) (hv9 : 0 ≤ v ∧ v ≤ 99) (hp : 0 ≤ p ∧ p ≤ 1) => kq_for (α := Int × KS) (2 ^ n.toNat) (fun i s => 0 ≤ i ∧ FrQ σ s.2 ∧ s.1 = m_ab (M 39) d n t v i.toNat ∧ (0 ≤ s.1 ∧ s.1 ≤ 1280000000 * i)) (fun i s => K 109 [some (kr 38), some (ki d), some (ki n), some (ki t), some (ki v), some (ki p), some (kj s.1), none, some (kj (t ^ n.toNat)), none, some (ki i), none, none, none, none] [] s.2) ?_) (fun lp => ?_)
  · intro i s hi inv ih
    obtain ⟨u, ρ⟩ := s
    obtain ⟨i0, F, hu, bu⟩ := inv
    dsimp only at F hu bu ⊢
    obtain ⟨hs1, hs2, hs3⟩ := ib_shl_2 hn
    have hb := m_wt_b (s := i) ht n.toNat
    have hp2 := p20_b (n := n.toNat) (by omega)
    have hpt := pow_t ht n.toNat
    have R2 := hR.fr F
    refine kq_use (fun (hlt : i < 2 ^ n.toNat) => kq_for (α := KS) n (fun j τ => 0 ≤ j ∧ FrQ σ τ ∧ τ 40 = m_ds (M 39) i j.toNat) (fun j τ => K 134 [some (kr 38), some (ki d), some (ki n), some (ki t), some (ki v), some (ki p), some (kj u), none, some (kj (t ^ n.toNat)), none, some (ki i), some (kj (m_wt i t j.toNat)), none, some (ki j), none] [] τ) ?_) (fun lp2 => ?_)
    · intro j τ hj inv2 ih2
      obtain ⟨j0, G, t40⟩ := inv2
      obtain ⟨y1, y2, y3, y4, y5⟩ := m_ds_ok ok z39 h999 i j.toNat (by omega)
      obtain ⟨x1, x2, x3, x4⟩ := m_dh_ok y1 y2 i j
      have hwb := m_wt_b (s := i) ht j.toNat
      have hpj := p20_b (n := j.toNat) (by omega)
      rw [m_wt_s j0] at ih2
      have R3 := hR.fr G
      refine kq_use (fun (hlj : j < n) (W : Int) (hW : W = m_wt i t j.toNat * (if m_bt i j = 1 then 1 else t - 1)) => kq_for (α := KS) (M 39 0) (fun q τ => 0 ≤ q ∧ FrQ σ τ ∧ τ 40 = m_hf (m_ds (M 39) i j.toNat) q.toNat ∧ (q = 0 ∨ m_bt i j = 1)) (fun q τ => K 166 [some (kr 38), some (ki d), some (ki n), some (ki t), some (ki v), some (ki p), some (kj u), none, some (kj (t ^ n.toNat)), none, some (ki i), some (kj W), none, some (ki j), some (ki q)] [] τ) ?_) (fun lp3 => ?_)
      · intro q τ1 hq inv3 ih3
        obtain ⟨q0, G1, t401, hq1⟩ := inv3
        have R4 := hR.fr G1
        obtain ⟨w1, w2⟩ := m_hf_at (m_ds (M 39) i j.toNat) q.toNat (by omega)
        have a0 : τ1 40 0 = M 39 0 := by rw [t401, w1 0 (by omega)]; exact y3
        have a4 : τ1 40 (3 + 6 * q + 4) = aD (m_hf (m_ds (M 39) i j.toNat) q.toNat) q 4 := by rw [t401]; rfl
        have zhf : Zr (m_hf (m_ds (M 39) i j.toNat) q.toNat) := fun z hz => by rw [w1 z (by omega)]; exact y2 z hz
        refine ks_iload (n := 168) S dX5_draught_166 rfl rfl ?_
        refine ks_aload_n (n := 169) S dX5_draught_168 rfl rfl ?_
        refine ks_getr (n := 172) S dX5_draught_169 rfl fl_X5_13 rfl rfl ?_
        refine ks_iconst (n := 173) S dX5_draught_172 rfl (by unfold iv; decide) ?_
        refine ks_iaload (n := 174) S dX5_draught_173 rfl rfl (by omega) ?_
        refine ks_icmp_ge (n := 177) (tgt := 215) S dX5_draught_174 rfl rfl (fun h174 => ?_) (fun h174 => ?_)
        · skip
          have eh : τ1 40 = m_dh (m_ds (M 39) i j.toNat) i j := by
            rw [t401]
            unfold m_dh
            by_cases hbt : m_bt i j = 1
            · rw [if_pos hbt]
              first | (exact absurd hbt h184) | (rw [y3, show q = M 39 0 by omega])
            · rw [if_neg hbt]
              rcases hq1 with h | h
              · rw [h]; rfl
              · exact absurd h hbt
          refine ks_aload_n (n := 216) S dX5_draught_215 rfl rfl ?_
          refine ks_getr (n := 219) S dX5_draught_216 rfl fl_X5_13 rfl rfl ?_
          refine kf_s1v (n := 222) S dX5_draught_219 rfl ml_X5_83 ym_X5_hour (ev_X5_hour rfl (by rw [eh]; exact x1) (by rw [eh, x3 2 (by omega), y4]; omega)) (by decide) (Nat.le_of_ble_eq_true rfl) ?_
          rw [eh, ← m_ds_s j0]
          refine ks_iinc (n := 225) S dX5_draught_222 rfl rfl (by omega) (L' := fun yy => [some (kr 38), some (ki d), some (ki n), some (ki t), some (ki v), some (ki p), some (kj u), none, some (kj (t ^ n.toNat)), none, some (ki i), some (kj W), none, some (ki yy), some (ki q)]) (fun _ => rfl) (fun v13_222 hv222 => ?_)
          subst v13_222
          refine ks_goto (n := 134) S dX5_draught_225 rfl ?_
          refine ks_weak (L' := [some (kr 38), some (ki d), some (ki n), some (ki t), some (ki v), some (ki p), some (kj u), none, some (kj (t ^ n.toNat)), none, some (ki i), some (kj W), none, some (ki _), none]) S ((And.intro rfl (And.intro rfl (And.intro rfl (And.intro rfl (And.intro rfl (And.intro rfl (And.intro rfl (And.intro rfl (And.intro rfl (And.intro rfl (And.intro rfl True.intro)))))))))))) ?_
          rw [hW]
          refine ih2 _ hlj ⟨by omega, G1.tr (FrQ.m ?_), by rw [sr_r]⟩
          rw [m_ds_s j0]; exact m_hour_z x1 x2
        · skip
          refine ks_iload (n := 179) S dX5_draught_177 rfl rfl ?_
          refine ks_iload (n := 181) S dX5_draught_179 rfl rfl ?_
          refine kf_s2z (n := 184) S dX5_draught_181 rfl ml_X5_178 ym_X5_has (ev_X5_has) (by decide) (Nat.le_of_ble_eq_true rfl) ?_
          refine ks_if_eq (n := 187) (tgt := 215) S dX5_draught_184 rfl rfl (fun h184 => ?_) (fun h184 => ?_)
          · skip
            simp only [bi_eq, bi_ne, Classical.not_not] at h184
            have eh : τ1 40 = m_dh (m_ds (M 39) i j.toNat) i j := by
              rw [t401]
              unfold m_dh
              by_cases hbt : m_bt i j = 1
              · rw [if_pos hbt]
                first | (exact absurd hbt h184) | (rw [y3, show q = M 39 0 by omega])
              · rw [if_neg hbt]
                rcases hq1 with h | h
                · rw [h]; rfl
                · exact absurd h hbt
            refine ks_aload_n (n := 216) S dX5_draught_215 rfl rfl ?_
            refine ks_getr (n := 219) S dX5_draught_216 rfl fl_X5_13 rfl rfl ?_
            refine kf_s1v (n := 222) S dX5_draught_219 rfl ml_X5_83 ym_X5_hour (ev_X5_hour rfl (by rw [eh]; exact x1) (by rw [eh, x3 2 (by omega), y4]; omega)) (by decide) (Nat.le_of_ble_eq_true rfl) ?_
            rw [eh, ← m_ds_s j0]
            refine ks_iinc (n := 225) S dX5_draught_222 rfl rfl (by omega) (L' := fun yy => [some (kr 38), some (ki d), some (ki n), some (ki t), some (ki v), some (ki p), some (kj u), none, some (kj (t ^ n.toNat)), none, some (ki i), some (kj W), none, some (ki yy), some (ki q)]) (fun _ => rfl) (fun v13_222 hv222 => ?_)
            subst v13_222
            refine ks_goto (n := 134) S dX5_draught_225 rfl ?_
            refine ks_weak (L' := [some (kr 38), some (ki d), some (ki n), some (ki t), some (ki v), some (ki p), some (kj u), none, some (kj (t ^ n.toNat)), none, some (ki i), some (kj W), none, some (ki _), none]) S ((And.intro rfl (And.intro rfl (And.intro rfl (And.intro rfl (And.intro rfl (And.intro rfl (And.intro rfl (And.intro rfl (And.intro rfl (And.intro rfl (And.intro rfl True.intro)))))))))))) ?_
            rw [hW]
            refine ih2 _ hlj ⟨by omega, G1.tr (FrQ.m ?_), by rw [sr_r]⟩
            rw [m_ds_s j0]; exact m_hour_z x1 x2
          · skip
            simp only [bi_eq, bi_ne, Classical.not_not] at h184
            have b4 : aD (m_hf (m_ds (M 39) i j.toNat) q.toNat) q 4 = aD (m_ds (M 39) i j.toNat) q 4 := by rw [w2 q 4 q0 (by omega) (by omega) (by omega), if_neg (by omega)]
            have b5 := (y1.2.2.2.1 q q0 (by omega)).2.2.2.2.2.1
            refine ks_aload_n (n := 188) S dX5_draught_187 rfl rfl ?_
            refine ks_getr (n := 191) S dX5_draught_188 rfl fl_X5_13 rfl rfl ?_
            refine ks_iload (n := 193) S dX5_draught_191 rfl rfl ?_
            refine ks_aload_n (n := 194) S dX5_draught_193 rfl rfl ?_
            refine ks_getr (n := 197) S dX5_draught_194 rfl fl_X5_13 rfl rfl ?_
            refine ks_iload (n := 199) S dX5_draught_197 rfl rfl ?_
            refine ks_iconst (n := 200) S dX5_draught_199 rfl (by unfold iv; decide) ?_
            refine kf_s2i (n := 203) S dX5_draught_200 rfl ml_X5_48 ym_X5_ofD (ev_X5_ofD (by omega) (by omega)) (by decide) (Nat.le_of_ble_eq_true rfl) ?_
            refine ks_iaload (n := 204) S dX5_draught_203 rfl rfl (by omega) ?_
            refine ks_iconst (n := 205) S dX5_draught_204 rfl (by unfold iv; decide) ?_
            refine ks_idiv (n := 206) S dX5_draught_205 rfl (by omega) ?_
            refine kf_s3v (n := 209) S dX5_draught_206 rfl ml_X5_79 ym_X5_coolsTo (ev_X5_coolsTo rfl (by omega)) (by decide) (Nat.le_of_ble_eq_true rfl) ?_
            rw [a4, t401, ← m_hf_s q0]
            refine ks_iinc (n := 212) S dX5_draught_209 rfl rfl (by omega) (L' := fun yy => [some (kr 38), some (ki d), some (ki n), some (ki t), some (ki v), some (ki p), some (kj u), none, some (kj (t ^ n.toNat)), none, some (ki i), some (kj W), none, some (ki j), some (ki yy)]) (fun _ => rfl) (fun v14_209 hv209 => ?_)
            subst v14_209
            refine ks_goto (n := 166) S dX5_draught_212 rfl ?_
            refine ih3 _ (by omega) ⟨by omega, G1.tr (FrQ.m (fun z hz => ?_)), by rw [sr_r], Or.inr h184⟩
            rw [m_hf_s q0, m_to_out (by omega) (by omega)]
            exact zhf z hz
      refine ks_iload (n := 136) S dX5_draught_134 rfl rfl ?_
      refine ks_iload_n (n := 137) S dX5_draught_136 rfl rfl ?_
      refine ks_icmp_ge (n := 140) (tgt := 228) S dX5_draught_137 rfl rfl (fun h137 => ?_) (fun h137 => ?_)
      · skip
        have hjn : j = n := by omega
        obtain ⟨r1, r2, r3⟩ := y5 d hd.1 hd.2
        have od := y1.2.2.2.1 d hd.1 (by rw [y3]; exact hd.2)
        have egv : m_gv (τ 40) d = m_gives (aD (M 39) d 0) (aD (M 39) d 1) (m_hb (aD (M 39) d 0) (aD (M 39) d 1) (aD (M 39) d 4) i n.toNat) := by rw [t40]; unfold m_gv; rw [r1, r2, r3, hjn]
        refine ks_lload (n := 230) S dX5_draught_228 rfl rfl ?_
        refine ks_aload_n (n := 231) S dX5_draught_230 rfl rfl ?_
        refine ks_getr (n := 234) S dX5_draught_231 rfl fl_X5_13 rfl rfl ?_
        refine ks_iload_n (n := 235) S dX5_draught_234 rfl rfl ?_
        refine kf_s2i (n := 238) S dX5_draught_235 rfl ml_X5_58 ym_X5_gives (ev_X5_gives rfl (by omega) (by rw [t40]; exact od.2.1) (by rw [t40]; exact od.2.2.2.2.2.1)) (by decide) (Nat.le_of_ble_eq_true rfl) ?_
        rw [egv]
        refine ks_iload (n := 240) S dX5_draught_238 rfl rfl ?_
        refine ks_icmp_gt (n := 243) (tgt := 248) S dX5_draught_240 rfl rfl (fun h240 => ?_) (fun h240 => ?_)
        · skip
          refine ks_lconst (n := 249) (y := 0) S dX5_draught_248 rfl (by unfold jv; decide) ?_
          refine ks_ladd (n := 250) S dX5_draught_249 rfl (by omega) ?_
          refine ks_lstore (n := 252) S dX5_draught_250 rfl (L' := fun yy => [some (kr 38), some (ki d), some (ki n), some (ki t), some (ki v), some (ki p), some (kj yy), none, some (kj (t ^ n.toNat)), none, some (ki i), some (kj (m_wt i t j.toNat)), none, some (ki j), none]) (Nat.le_of_ble_eq_true rfl) (fun _ => rfl) (fun v6_250 hv250 => ?_)
          subst v6_250
          refine ks_iinc (n := 255) S dX5_draught_252 rfl rfl (by omega) (L' := fun yy => [some (kr 38), some (ki d), some (ki n), some (ki t), some (ki v), some (ki p), some (kj _), none, some (kj (t ^ n.toNat)), none, some (ki yy), some (kj (m_wt i t j.toNat)), none, some (ki j), none]) (fun _ => rfl) (fun v10_252 hv252 => ?_)
          subst v10_252
          refine ks_goto (n := 109) S dX5_draught_255 rfl ?_
          refine ks_weak (L' := [some (kr 38), some (ki d), some (ki n), some (ki t), some (ki v), some (ki p), some (kj _), none, some (kj (t ^ n.toNat)), none, some (ki _), none, none, none, none]) S ((And.intro rfl (And.intro rfl (And.intro rfl (And.intro rfl (And.intro rfl (And.intro rfl (And.intro rfl (And.intro rfl (And.intro rfl True.intro)))))))))) ?_
          refine ih (_, τ) hlt ⟨by omega, G, ?_, ⟨?_, ?_⟩⟩
          · dsimp only
            rw [m_ab_s i0, ← hu]
            first | (rw [if_neg (by omega)]; done) | (rw [if_pos (by omega), hjn]; done)
          · dsimp only; omega
          · dsimp only; omega
        · skip
          refine ks_lload (n := 245) S dX5_draught_243 rfl rfl ?_
          refine ks_goto (n := 249) S dX5_draught_245 rfl ?_
          refine ks_ladd (n := 250) S dX5_draught_249 rfl (by omega) ?_
          refine ks_lstore (n := 252) S dX5_draught_250 rfl (L' := fun yy => [some (kr 38), some (ki d), some (ki n), some (ki t), some (ki v), some (ki p), some (kj yy), none, some (kj (t ^ n.toNat)), none, some (ki i), some (kj (m_wt i t j.toNat)), none, some (ki j), none]) (Nat.le_of_ble_eq_true rfl) (fun _ => rfl) (fun v6_250 hv250 => ?_)
          subst v6_250
          refine ks_iinc (n := 255) S dX5_draught_252 rfl rfl (by omega) (L' := fun yy => [some (kr 38), some (ki d), some (ki n), some (ki t), some (ki v), some (ki p), some (kj _), none, some (kj (t ^ n.toNat)), none, some (ki yy), some (kj (m_wt i t j.toNat)), none, some (ki j), none]) (fun _ => rfl) (fun v10_252 hv252 => ?_)
          subst v10_252
          refine ks_goto (n := 109) S dX5_draught_255 rfl ?_
          refine ks_weak (L' := [some (kr 38), some (ki d), some (ki n), some (ki t), some (ki v), some (ki p), some (kj _), none, some (kj (t ^ n.toNat)), none, some (ki _), none, none, none, none]) S ((And.intro rfl (And.intro rfl (And.intro rfl (And.intro rfl (And.intro rfl (And.intro rfl (And.intro rfl (And.intro rfl (And.intro rfl True.intro)))))))))) ?_
          refine ih (_, τ) hlt ⟨by omega, G, ?_, ⟨?_, ?_⟩⟩
          · dsimp only
            rw [m_ab_s i0, ← hu]
            first | (rw [if_neg (by omega)]; done) | (rw [if_pos (by omega), hjn]; done)
          · dsimp only; omega
          · dsimp only; omega
      · skip
        refine ks_lload (n := 142) S dX5_draught_140 rfl rfl ?_
        refine ks_iload (n := 144) S dX5_draught_142 rfl rfl ?_
        refine ks_iload (n := 146) S dX5_draught_144 rfl rfl ?_
        refine kf_s2z (n := 149) S dX5_draught_146 rfl ml_X5_178 ym_X5_has (ev_X5_has) (by decide) (Nat.le_of_ble_eq_true rfl) ?_
        refine ks_if_eq (n := 152) (tgt := 156) S dX5_draught_149 rfl rfl (fun h149 => ?_) (fun h149 => ?_)
        · skip
          simp only [bi_eq, bi_ne, Classical.not_not] at h149
          refine ks_iload_n (n := 157) S dX5_draught_156 rfl rfl ?_
          refine ks_iconst (n := 158) S dX5_draught_157 rfl (by unfold iv; decide) ?_
          refine ks_isub (n := 159) S dX5_draught_158 rfl (by omega) ?_
          refine ks_i2l (n := 160) S dX5_draught_159 rfl ?_
          have e1 : 0 ≤ m_wt i t j.toNat * (t - 1) := Int.mul_nonneg hwb.1 (by omega)
          have e2 : m_wt i t j.toNat * (t - 1) ≤ 1280000000 * 19 := Int.mul_le_mul (by omega) (by omega) (by omega) (by omega)
          refine ks_lmul (n := 161) S dX5_draught_160 rfl (by omega) ?_
          refine ks_lstore (n := 163) S dX5_draught_161 rfl (L' := fun yy => [some (kr 38), some (ki d), some (ki n), some (ki t), some (ki v), some (ki p), some (kj u), none, some (kj (t ^ n.toNat)), none, some (ki i), some (kj yy), none, some (ki j), none]) (Nat.le_of_ble_eq_true rfl) (fun _ => rfl) (fun v11_161 hv161 => ?_)
          subst v11_161
          refine ks_iconst (n := 164) S dX5_draught_163 rfl (by unfold iv; decide) ?_
          refine ks_istore (n := 166) S dX5_draught_164 rfl (L' := fun yy => [some (kr 38), some (ki d), some (ki n), some (ki t), some (ki v), some (ki p), some (kj u), none, some (kj (t ^ n.toNat)), none, some (ki i), some (kj _), none, some (ki j), some (ki yy)]) (Nat.le_of_ble_eq_true rfl) (fun _ => rfl) (fun v14_164 hv164 => ?_)
          obtain rfl : v14_164 = 0 := by omega
          exact lp3 (by omega) _ (by first | rw [if_neg h149] | rw [if_pos h149]) 0 _ n9.1 ⟨by omega, G, by rw [t40]; rfl, Or.inl rfl⟩
        · skip
          simp only [bi_eq, bi_ne, Classical.not_not] at h149
          refine ks_lconst (n := 153) (y := 1) S dX5_draught_152 rfl (by unfold jv; decide) ?_
          refine ks_goto (n := 160) S dX5_draught_153 rfl ?_
          have e1 : 0 ≤ m_wt i t j.toNat * (t - 1) := Int.mul_nonneg hwb.1 (by omega)
          have e2 : m_wt i t j.toNat * (t - 1) ≤ 1280000000 * 19 := Int.mul_le_mul (by omega) (by omega) (by omega) (by omega)
          refine ks_lmul (n := 161) S dX5_draught_160 rfl (by omega) ?_
          refine ks_lstore (n := 163) S dX5_draught_161 rfl (L' := fun yy => [some (kr 38), some (ki d), some (ki n), some (ki t), some (ki v), some (ki p), some (kj u), none, some (kj (t ^ n.toNat)), none, some (ki i), some (kj yy), none, some (ki j), none]) (Nat.le_of_ble_eq_true rfl) (fun _ => rfl) (fun v11_161 hv161 => ?_)
          subst v11_161
          refine ks_iconst (n := 164) S dX5_draught_163 rfl (by unfold iv; decide) ?_
          refine ks_istore (n := 166) S dX5_draught_164 rfl (L' := fun yy => [some (kr 38), some (ki d), some (ki n), some (ki t), some (ki v), some (ki p), some (kj u), none, some (kj (t ^ n.toNat)), none, some (ki i), some (kj _), none, some (ki j), some (ki yy)]) (Nat.le_of_ble_eq_true rfl) (fun _ => rfl) (fun v14_164 hv164 => ?_)
          obtain rfl : v14_164 = 0 := by omega
          exact lp3 (by omega) _ (by first | rw [if_neg h149] | rw [if_pos h149]) 0 _ n9.1 ⟨by omega, G, by rw [t40]; rfl, Or.inl rfl⟩
    refine ks_iload (n := 111) S dX5_draught_109 rfl rfl ?_
    refine ks_iconst (n := 112) S dX5_draught_111 rfl (by unfold iv; decide) ?_
    refine ks_iload_n (n := 113) S dX5_draught_112 rfl rfl ?_
    refine ks_ishl (n := 114) S dX5_draught_113 rfl ?_
    refine ks_icmp_ge (n := 117) (tgt := 258) S dX5_draught_114 rfl rfl (fun h114 => ?_) (fun h114 => ?_)
    · skip
      have hie : i.toNat = 2 ^ n.toNat := by
        have : (i.toNat : Int) = ((2 ^ n.toNat : Nat) : Int) := by push_cast; omega
        exact_mod_cast this
      rw [hie] at hu
      refine ks_lload (n := 260) S dX5_draught_258 rfl rfl ?_
      refine ks_lload (n := 262) S dX5_draught_260 rfl rfl ?_
      refine ks_iload (n := 264) S dX5_draught_262 rfl rfl ?_
      refine kf_s3j (n := 267) S dX5_draught_264 rfl ml_X5_228 ym_X5_partOf (ev_X5_partOf (by omega) (by omega) (fun _ => hpt.1) (by omega)) (by decide) (Nat.le_of_ble_eq_true rfl) ?_
      refine ks_lret S dX5_draught_267 ?_
      rw [if_neg (show ¬ t ^ n.toNat < 1 by omega)]
      refine qrj_mk (hR.fr F) (fun c hc => F.1 c (by omega)) ?_
      unfold A_draught
      rw [if_neg (by omega), if_neg (by omega), if_neg (by omega), if_neg (by omega), hu]
    · skip
      refine ks_lconst (n := 118) (y := 1) S dX5_draught_117 rfl (by unfold jv; decide) ?_
      refine ks_lstore (n := 120) S dX5_draught_118 rfl (L' := fun yy => [some (kr 38), some (ki d), some (ki n), some (ki t), some (ki v), some (ki p), some (kj u), none, some (kj (t ^ n.toNat)), none, some (ki i), some (kj yy), none, none, none]) (Nat.le_of_ble_eq_true rfl) (fun _ => rfl) (fun v11_118 hv118 => ?_)
      subst v11_118
      refine ks_aload_n (n := 121) S dX5_draught_120 rfl rfl ?_
      refine ks_getr (n := 124) S dX5_draught_121 rfl fl_X5_9 rfl rfl ?_
      refine ks_aload_n (n := 125) S dX5_draught_124 rfl rfl ?_
      refine ks_getr (n := 128) S dX5_draught_125 rfl fl_X5_13 rfl rfl ?_
      refine kf_s2v (n := 131) S dX5_draught_128 rfl ml_X5_137 ym_X5_copies (ev_X5_copies rfl rfl (by decide) (by rw [R2.1]; exact z39) R2.2.2.2.2.2.2.2.2.1) (by decide) (Nat.le_of_ble_eq_true rfl) ?_
      rw [R2.1]
      refine ks_iconst (n := 132) S dX5_draught_131 rfl (by unfold iv; decide) ?_
      refine ks_istore (n := 134) S dX5_draught_132 rfl (L' := fun yy => [some (kr 38), some (ki d), some (ki n), some (ki t), some (ki v), some (ki p), some (kj u), none, some (kj (t ^ n.toNat)), none, some (ki i), some (kj _), none, some (ki yy), none]) (Nat.le_of_ble_eq_true rfl) (fun _ => rfl) (fun v13_132 hv132 => ?_)
      obtain rfl : v13_132 = 0 := by omega
      exact lp2 (by omega) 0 _ hn.1 ⟨by omega, F.tr (FrQ.m z39), by rw [sr_r]; rfl⟩
  refine kq_use (fun (hn : 0 ≤ n ∧ n ≤ 7) (ht : 2 ≤ t ∧ t ≤ 20) (L106 : K 106 [some (kr 38), some (ki d), some (ki n), some (ki t), some (ki v), some (ki p), some (kj 0), none, some (kj (t ^ n.toNat)), none, none, none, none, none, none] [] σ) => kq_for (α := Unit) n (fun i _ => 0 ≤ i) (fun i _ => K 87 [some (kr 38), some (ki d), some (ki n), some (ki t), some (ki v), some (ki p), some (kj 0), none, some (kj (t ^ i.toNat)), none, some (ki i), none, none, none, none] [] σ) ?_) (fun lp0 => ?_)
  · intro i _ hi i0 ih
    have hpt := pow_t ht i.toNat
    have hp2 := p20_b (n := i.toNat) (by omega)
    have hps : t ^ (i + 1).toNat = t ^ i.toNat * t := by rw [show (i + 1).toNat = i.toNat + 1 by omega, Int.pow_succ]
    rw [hps] at ih
    refine ks_iload (n := 89) S dX5_draught_87 rfl rfl ?_
    refine ks_iload_n (n := 90) S dX5_draught_89 rfl rfl ?_
    refine ks_icmp_ge (n := 93) (tgt := 106) S dX5_draught_90 rfl rfl (fun h90 => ?_) (fun h90 => ?_)
    · skip
      refine ks_weak (L' := [some (kr 38), some (ki d), some (ki n), some (ki t), some (ki v), some (ki p), some (kj 0), none, some (kj (t ^ i.toNat)), none, none, none, none, none, none]) S ((And.intro rfl (And.intro rfl (And.intro rfl (And.intro rfl (And.intro rfl (And.intro rfl (And.intro rfl (And.intro rfl True.intro))))))))) ?_
      rw [show i = n by omega]
      exact L106
    · skip
      refine ks_lload (n := 95) S dX5_draught_93 rfl rfl ?_
      refine ks_iload_n (n := 96) S dX5_draught_95 rfl rfl ?_
      refine ks_i2l (n := 97) S dX5_draught_96 rfl ?_
      have e1 : 0 ≤ t ^ i.toNat * t := Int.mul_nonneg (by omega) (by omega)
      have e2 : t ^ i.toNat * t ≤ 1280000000 * 20 := Int.mul_le_mul (by omega) (by omega) (by omega) (by omega)
      refine ks_lmul (n := 98) S dX5_draught_97 rfl (by omega) ?_
      refine ks_lstore (n := 100) S dX5_draught_98 rfl (L' := fun yy => [some (kr 38), some (ki d), some (ki n), some (ki t), some (ki v), some (ki p), some (kj 0), none, some (kj yy), none, some (ki i), none, none, none, none]) (Nat.le_of_ble_eq_true rfl) (fun _ => rfl) (fun v8_98 hv98 => ?_)
      subst v8_98
      refine ks_iinc (n := 103) S dX5_draught_100 rfl rfl (by omega) (L' := fun yy => [some (kr 38), some (ki d), some (ki n), some (ki t), some (ki v), some (ki p), some (kj 0), none, some (kj _), none, some (ki yy), none, none, none, none]) (fun _ => rfl) (fun v10_100 hv100 => ?_)
      subst v10_100
      refine ks_goto (n := 87) S dX5_draught_103 rfl ?_
      exact ih () (by omega) (by omega)
  refine ks_aload_n (n := 1) S dX5_draught_0 rfl rfl ?_
  refine ks_iload_n (n := 2) S dX5_draught_1 rfl rfl ?_
  refine kf_v1z (n := 5) S dX5_draught_2 rfl ml_X5_120 ym_X5_isDoor (ev_X5_isDoor (by rw [e39]; exact n9)) (by decide) rfl (Nat.le_of_ble_eq_true rfl) ?_
  refine ks_if_ne (n := 8) (tgt := 14) S dX5_draught_5 rfl rfl (fun h5 => ?_) (fun h5 => ?_)
  · skip
    simp only [bi_eq, bi_ne, Classical.not_not] at h5
    refine ks_iload_n (n := 15) S dX5_draught_14 rfl rfl ?_
    refine ks_if_lt (n := 18) (tgt := 28) S dX5_draught_15 rfl rfl (fun h15 => ?_) (fun h15 => ?_)
    · skip
      refine ks_aload_n (n := 29) S dX5_draught_28 rfl rfl ?_
      refine ks_bipush (n := 31) S dX5_draught_29 rfl (by unfold iv; decide) ?_
      refine kf_v1j (n := 34) S dX5_draught_31 rfl ml_X5_224 ym_X5_noWide (ev_X5_noWide (by omega)) (by decide) rfl (Nat.le_of_ble_eq_true rfl) ?_
      refine ks_lret S dX5_draught_34 ?_
      exact qrj_mk hR.ref (fun c hc => funext fun j => kq_up_c (by omega)) (by unfold A_draught; (repeat' split) <;> first | rfl | omega)
    · skip
      refine ks_iload (n := 20) S dX5_draught_18 rfl rfl ?_
      refine ks_if_lt (n := 23) (tgt := 28) S dX5_draught_20 rfl rfl (fun h20 => ?_) (fun h20 => ?_)
      · skip
        refine ks_aload_n (n := 29) S dX5_draught_28 rfl rfl ?_
        refine ks_bipush (n := 31) S dX5_draught_29 rfl (by unfold iv; decide) ?_
        refine kf_v1j (n := 34) S dX5_draught_31 rfl ml_X5_224 ym_X5_noWide (ev_X5_noWide (by omega)) (by decide) rfl (Nat.le_of_ble_eq_true rfl) ?_
        refine ks_lret S dX5_draught_34 ?_
        exact qrj_mk hR.ref (fun c hc => funext fun j => kq_up_c (by omega)) (by unfold A_draught; (repeat' split) <;> first | rfl | omega)
      · skip
        refine ks_iload_n (n := 24) S dX5_draught_23 rfl rfl ?_
        refine ks_iconst (n := 25) S dX5_draught_24 rfl (by unfold iv; decide) ?_
        refine ks_icmp_ge (n := 28) (tgt := 35) S dX5_draught_25 rfl rfl (fun h25 => ?_) (fun h25 => ?_)
        · skip
          refine ks_iload_n (n := 36) S dX5_draught_35 rfl rfl ?_
          refine ks_bipush (n := 38) S dX5_draught_36 rfl (by unfold iv; decide) ?_
          refine ks_icmp_gt (n := 41) (tgt := 54) S dX5_draught_38 rfl rfl (fun h38 => ?_) (fun h38 => ?_)
          · skip
            refine ks_aload_n (n := 55) S dX5_draught_54 rfl rfl ?_
            refine ks_bipush (n := 57) S dX5_draught_55 rfl (by unfold iv; decide) ?_
            refine kf_v1j (n := 60) S dX5_draught_57 rfl ml_X5_224 ym_X5_noWide (ev_X5_noWide (by omega)) (by decide) rfl (Nat.le_of_ble_eq_true rfl) ?_
            refine ks_lret S dX5_draught_60 ?_
            exact qrj_mk hR.ref (fun c hc => funext fun j => kq_up_c (by omega)) (by unfold A_draught; (repeat' split) <;> first | rfl | omega)
          · skip
            refine ks_iload_n (n := 42) S dX5_draught_41 rfl rfl ?_
            refine ks_bipush (n := 44) S dX5_draught_42 rfl (by unfold iv; decide) ?_
            refine ks_icmp_gt (n := 47) (tgt := 54) S dX5_draught_44 rfl rfl (fun h44 => ?_) (fun h44 => ?_)
            · skip
              refine ks_aload_n (n := 55) S dX5_draught_54 rfl rfl ?_
              refine ks_bipush (n := 57) S dX5_draught_55 rfl (by unfold iv; decide) ?_
              refine kf_v1j (n := 60) S dX5_draught_57 rfl ml_X5_224 ym_X5_noWide (ev_X5_noWide (by omega)) (by decide) rfl (Nat.le_of_ble_eq_true rfl) ?_
              refine ks_lret S dX5_draught_60 ?_
              exact qrj_mk hR.ref (fun c hc => funext fun j => kq_up_c (by omega)) (by unfold A_draught; (repeat' split) <;> first | rfl | omega)
            · skip
              refine ks_iload (n := 49) S dX5_draught_47 rfl rfl ?_
              refine ks_bipush (n := 51) S dX5_draught_49 rfl (by unfold iv; decide) ?_
              refine ks_icmp_le (n := 54) (tgt := 61) S dX5_draught_51 rfl rfl (fun h51 => ?_) (fun h51 => ?_)
              · skip
                refine ks_iload (n := 63) S dX5_draught_61 rfl rfl ?_
                refine ks_iconst (n := 64) S dX5_draught_63 rfl (by unfold iv; decide) ?_
                refine ks_iconst (n := 65) S dX5_draught_64 rfl (by unfold iv; decide) ?_
                refine kf_s3z (n := 68) S dX5_draught_65 rfl ml_X5_44 ym_X5_isIn (ev_X5_isIn) (by decide) (Nat.le_of_ble_eq_true rfl) ?_
                refine ks_if_ne (n := 71) (tgt := 78) S dX5_draught_68 rfl rfl (fun h68 => ?_) (fun h68 => ?_)
                · skip
                  simp only [bi_eq, bi_ne, Classical.not_not] at h68
                  refine ks_lconst (n := 79) (y := 0) S dX5_draught_78 rfl (by unfold jv; decide) ?_
                  refine ks_lstore (n := 81) S dX5_draught_79 rfl (L' := fun yy => [some (kr 38), some (ki d), some (ki n), some (ki t), some (ki v), some (ki p), some (kj yy), none, none, none, none, none, none, none, none]) (Nat.le_of_ble_eq_true rfl) (fun _ => rfl) (fun v6_79 hv79 => ?_)
                  subst v6_79
                  refine ks_lconst (n := 82) (y := 1) S dX5_draught_81 rfl (by unfold jv; decide) ?_
                  refine ks_lstore (n := 84) S dX5_draught_82 rfl (L' := fun yy => [some (kr 38), some (ki d), some (ki n), some (ki t), some (ki v), some (ki p), some (kj _), none, some (kj yy), none, none, none, none, none, none]) (Nat.le_of_ble_eq_true rfl) (fun _ => rfl) (fun v8_82 hv82 => ?_)
                  subst v8_82
                  refine ks_iconst (n := 85) S dX5_draught_84 rfl (by unfold iv; decide) ?_
                  refine ks_istore (n := 87) S dX5_draught_85 rfl (L' := fun yy => [some (kr 38), some (ki d), some (ki n), some (ki t), some (ki v), some (ki p), some (kj _), none, some (kj _), none, some (ki yy), none, none, none, none]) (Nat.le_of_ble_eq_true rfl) (fun _ => rfl) (fun v10_85 hv85 => ?_)
                  obtain rfl : v10_85 = 0 := by omega
                  have e9 := fun X => lp0 (by omega) (by omega) X 0 () (by omega) (by omega)
                  rw [show t ^ (0 : Int).toNat = 1 from Int.pow_zero t] at e9
                  refine e9 ?_
                  refine ks_iconst (n := 107) S dX5_draught_106 rfl (by unfold iv; decide) ?_
                  refine ks_istore (n := 109) S dX5_draught_107 rfl (L' := fun yy => [some (kr 38), some (ki d), some (ki n), some (ki t), some (ki v), some (ki p), some (kj 0), none, some (kj (t ^ n.toNat)), none, some (ki yy), none, none, none, none]) (Nat.le_of_ble_eq_true rfl) (fun _ => rfl) (fun v9 hv9 => ?_)
                  subst v9
                  exact lp (by omega) (by omega) (by omega) (by omega) (by omega) 0 (0, σ) (by obtain ⟨-, -, h⟩ := ib_shl_2 (n := n) (by omega); omega) ⟨by omega, FrQ.rf hR.2.2.2.2.2.2.2.2.1, rfl, ⟨by omega, by omega⟩⟩
                · skip
                  simp only [bi_eq, bi_ne, Classical.not_not] at h68
                  refine ks_aload_n (n := 72) S dX5_draught_71 rfl rfl ?_
                  refine ks_bipush (n := 74) S dX5_draught_72 rfl (by unfold iv; decide) ?_
                  refine kf_v1j (n := 77) S dX5_draught_74 rfl ml_X5_224 ym_X5_noWide (ev_X5_noWide (by omega)) (by decide) rfl (Nat.le_of_ble_eq_true rfl) ?_
                  refine ks_lret S dX5_draught_77 ?_
                  exact qrj_mk hR.ref (fun c hc => funext fun j => kq_up_c (by omega)) (by unfold A_draught; (repeat' split) <;> first | rfl | omega)
              · skip
                refine ks_aload_n (n := 55) S dX5_draught_54 rfl rfl ?_
                refine ks_bipush (n := 57) S dX5_draught_55 rfl (by unfold iv; decide) ?_
                refine kf_v1j (n := 60) S dX5_draught_57 rfl ml_X5_224 ym_X5_noWide (ev_X5_noWide (by omega)) (by decide) rfl (Nat.le_of_ble_eq_true rfl) ?_
                refine ks_lret S dX5_draught_60 ?_
                exact qrj_mk hR.ref (fun c hc => funext fun j => kq_up_c (by omega)) (by unfold A_draught; (repeat' split) <;> first | rfl | omega)
        · skip
          refine ks_aload_n (n := 29) S dX5_draught_28 rfl rfl ?_
          refine ks_bipush (n := 31) S dX5_draught_29 rfl (by unfold iv; decide) ?_
          refine kf_v1j (n := 34) S dX5_draught_31 rfl ml_X5_224 ym_X5_noWide (ev_X5_noWide (by omega)) (by decide) rfl (Nat.le_of_ble_eq_true rfl) ?_
          refine ks_lret S dX5_draught_34 ?_
          exact qrj_mk hR.ref (fun c hc => funext fun j => kq_up_c (by omega)) (by unfold A_draught; (repeat' split) <;> first | rfl | omega)
  · skip
    simp only [bi_eq, bi_ne, Classical.not_not] at h5
    refine ks_aload_n (n := 9) S dX5_draught_8 rfl rfl ?_
    refine ks_iconst (n := 10) S dX5_draught_9 rfl (by unfold iv; decide) ?_
    refine kf_v1j (n := 13) S dX5_draught_10 rfl ml_X5_224 ym_X5_noWide (ev_X5_noWide (by omega)) (by decide) rfl (Nat.le_of_ble_eq_true rfl) ?_
    refine ks_lret S dX5_draught_13 ?_
    exact qrj_mk hR.ref (fun c hc => funext fun j => kq_up_c (by omega)) (by unfold A_draught; (repeat' split) <;> first | rfl | omega)
end PUB10

