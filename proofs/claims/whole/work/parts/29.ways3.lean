section WAYS3
variable {l : Launch} {σ : KS} {a g : RW} {c : Nat}
/-- the prices of the class are those of the tolls T -/
def m_PT (σ : KS) (T : RW) : Prop := ∀ r, 0 ≤ r → r < 7 → σ 35 r = m_f (T r)
/-- one look at a door, from x to y -/
theorem m_PT_r1 {T : RW} {x y d : Int} (h : m_PT σ T) (hT : m_PI T) (hx : 0 ≤ x ∧ x < 7) (hy : 0 ≤ y ∧ y < 7) (hg : g d = σ 34 d) (hb : -1 ≤ g d ∧ g d ≤ 108) :
    ((if σ 34 d = -1 then 1000000 else m_mn 1000000 (σ 35 y + 16 * σ 34 d + 1)) < σ 35 x ↔ (0 ≤ g d ∧ T y + (100 * g d + 1) < T x)) ∧ ((0 ≤ g d ∧ T y + (100 * g d + 1) < T x) → (if σ 34 d = -1 then 1000000 else m_mn 1000000 (σ 35 y + 16 * σ 34 d + 1)) = m_f (T y + (100 * g d + 1))) := by
  rw [← hg, h y hy.1 hy.2, h x hx.1 hx.2]
  have rx := hT.rg hx
  have ry := hT.rg hy
  by_cases hm : g d = -1
  · rw [if_pos hm]
    have := m_f_b rx
    constructor
    · constructor
      · intro h1; omega
      · intro h1; omega
    · intro h1; omega
  · rw [if_neg hm]
    constructor
    · rw [m_f_lt rx ry (by omega)]
      constructor
      · intro h1; exact ⟨by omega, h1⟩
      · intro h1; exact h1.2
    · intro h1; exact m_f_add rx ry (by omega) h1.2
def m_rc (T : RW) (x y c : Int) : RW := if 0 ≤ c ∧ T y + (100 * c + 1) < T x then ru T x (T y + (100 * c + 1)) else T
theorem m_rx_rc {T : RW} {x y c : Int} : m_rx T x y c = m_rc (m_rc T x y c) y x c := by
  have e : ∀ (U : RW) (p q : Int), m_rc U p q c = if c < 0 then U else m_r1 U p q c := fun U p q => by
    unfold m_rc m_r1
    (repeat' split) <;> first | rfl | omega
  unfold m_rx
  rw [e, e]
  split <;> rfl
theorem m_PI_rc {T : RW} {x y c : Int} (h : m_PI T) (hx : 0 ≤ x ∧ x < 7) (hy : 0 ≤ y ∧ y < 7) (hc : c ≤ 108) : m_PI (m_rc T x y c) := by
  by_cases h0 : 0 ≤ c
  · have : m_rc T x y c = m_r1 T x y c := by unfold m_rc m_r1; (repeat' split) <;> first | rfl | omega
    rw [this]; exact m_PI_r1 h hx hy ⟨h0, hc⟩
  · have : m_rc T x y c = T := by unfold m_rc; rw [if_neg (by omega)]
    rw [this]; exact h
theorem ev_X3_cheaper {T : RW} {d x y : Int} (hP : m_PT σ T) (hT : m_PI T) (hd : 0 ≤ d ∧ d < 9) (hx : 0 ≤ x ∧ x < 7) (hy : 0 ≤ y ∧ y < 7) (hg : g d = σ 34 d) (hb : -1 ≤ g d ∧ g d ≤ 108) : Ev l yX3_isCheaper cX3_isCheaper 5 (some .boolean) 2 43 [kr 33, ki d, ki x, ki y] σ (fun r τ => ∃ b : Int, r = some (ki b) ∧ (b = 0 ∨ b = 1) ∧ (∀ e, e ≠ 35 → τ e = σ e) ∧ m_PT τ (m_rc T x y (g d)) ∧ (b = 0 → m_rc T x y (g d) = T)) := by
  obtain ⟨k1, k2⟩ := m_PT_r1 hP hT hx hy hg hb
  have py := m_f_b (hT.rg hy)
  have qy := hP y hy.1 hy.2
  generalize hw : (if σ 34 d = -1 then 1000000 else m_mn 1000000 (σ 35 y + 16 * σ 34 d + 1)) = w at k1 k2
  refine ev_intro ym_X3_isCheaper.1 (Nat.le_of_ble_eq_true rfl) (fun hv hσ K S => ?_)
  have hv := hv
  show K 0 [some (kr 33), some (ki d), some (ki x), some (ki y), none] [] σ
  refine ks_aload_n (n := 1) S dX3_isCheaper_0 rfl rfl ?_
  refine ks_iload_n (n := 2) S dX3_isCheaper_1 rfl rfl ?_
  refine ks_iload_n (n := 3) S dX3_isCheaper_2 rfl rfl ?_
  refine kf_v2i (n := 6) S dX3_isCheaper_3 rfl ml_X3_39 ym_X3_priceThrough (ev_X3_priceThrough hd hy (by omega) (by omega)) (by decide) rfl (Nat.le_of_ble_eq_true rfl) ?_
  rw [hw]
  refine ks_istore (n := 8) S dX3_isCheaper_6 rfl (L' := fun yy => [some (kr 33), some (ki d), some (ki x), some (ki y), some (ki yy)]) (Nat.le_of_ble_eq_true rfl) (fun _ => rfl) (fun v4_6 hv6 => ?_)
  subst v4_6
  refine ks_iload_n (n := 9) S dX3_isCheaper_8 rfl rfl ?_
  refine ks_if_lt (n := 12) (tgt := 29) S dX3_isCheaper_9 rfl rfl (fun h9 => ?_) (fun h9 => ?_)
  · omega
  refine ks_iload_n (n := 13) S dX3_isCheaper_12 rfl rfl ?_
  refine ks_bipush (n := 15) S dX3_isCheaper_13 rfl (by unfold iv; decide) ?_
  refine ks_icmp_ge (n := 18) (tgt := 29) S dX3_isCheaper_15 rfl rfl (fun h15 => ?_) (fun h15 => ?_)
  · omega
  refine ks_iload (n := 20) S dX3_isCheaper_18 rfl rfl ?_
  refine ks_aload_n (n := 21) S dX3_isCheaper_20 rfl rfl ?_
  refine ks_getr (n := 24) S dX3_isCheaper_21 rfl fl_X3_15 rfl rfl ?_
  refine ks_iload_n (n := 25) S dX3_isCheaper_24 rfl rfl ?_
  refine ks_iaload (n := 26) S dX3_isCheaper_25 rfl rfl (by omega) ?_
  refine ks_icmp_lt (n := 29) (tgt := 31) S dX3_isCheaper_26 rfl rfl (fun h26 => ?_) (fun h26 => ?_)
  · skip
    refine ks_aload_n (n := 32) S dX3_isCheaper_31 rfl rfl ?_
    refine ks_getr (n := 35) S dX3_isCheaper_32 rfl fl_X3_15 rfl rfl ?_
    refine ks_iload_n (n := 36) S dX3_isCheaper_35 rfl rfl ?_
    refine ks_iload (n := 38) S dX3_isCheaper_36 rfl rfl ?_
    refine ks_iastore (n := 39) S dX3_isCheaper_38 rfl rfl (by omega) ?_
    refine ks_iconst (n := 40) S dX3_isCheaper_39 rfl (by unfold iv; decide) ?_
    refine ks_zret S dX3_isCheaper_40 (by first | exact Or.inl rfl | exact Or.inr rfl | exact bi_01) ?_
    have hn := k1.mp h26
    have e9 : m_rc T x y (g d) = ru T x (T y + (100 * g d + 1)) := if_pos hn
    refine ⟨1, rfl, Or.inr rfl, fun e he => funext fun j => kq_up_c he, ?_, fun h => by omega⟩
    rw [e9]
    intro q q0 q1
    rw [kq_up_of]
    unfold ru
    split
    · exact k2 hn
    · exact hP q q0 q1
  · skip
    refine ks_iconst (n := 30) S dX3_isCheaper_29 rfl (by unfold iv; decide) ?_
    refine ks_zret S dX3_isCheaper_30 (by first | exact Or.inl rfl | exact Or.inr rfl | exact bi_01) ?_
    have hn : ¬ (0 ≤ g d ∧ T y + (100 * g d + 1) < T x) := fun h => h26 (k1.mpr h)
    have e9 : m_rc T x y (g d) = T := if_neg hn
    exact ⟨0, rfl, Or.inl rfl, fun _ _ => rfl, by rw [e9]; exact hP, fun _ => e9⟩
set_option maxHeartbeats 4000000 in
theorem ev_X3_leadTo {room : Int} (hH : kq_H c) (hR : RepH σ c a) (ok : OkR a) (hr : 0 ≤ room ∧ room < 7) (hg : ∀ d, 0 ≤ d → d < a 0 → g d = σ 34 d ∧ -1 ≤ g d ∧ g d ≤ 108) : Ev l yX3_leadTo cX3_leadTo 8 none 3 67 [kr 33, kr c, ki room] σ (fun r τ => r = none ∧ (∀ e, e ≠ 35 → τ e = σ e) ∧ m_PT τ (m_tl a g room)) := by
  have n9 := ok.1
  have hc := kq_Hr hH
  have hg8 : ∀ d, 0 ≤ d → d < a 0 → g d ≤ 108 := fun d h0 h1 => (hg d h0 h1).2.2
  have PI := m_PI_rr ok hg8 (m_PI_0 hr)
  refine ev_intro ym_X3_leadTo.1 (Nat.le_of_ble_eq_true rfl) (fun hv hσ K S => ?_)
  have hv := hv
  show K 0 [some (kr 33), some (kr c), some (ki room), none, none, none, none, none] [] σ
  -- the rounds
  refine kq_use (kq_for (α := Int × KS) 7 (fun i s => 0 ≤ i ∧ (s.1 = 0 ∨ s.1 = 1) ∧ (∀ e, e ≠ 35 → s.2 e = σ e) ∧ m_PT s.2 (m_rr a g (m_T0 room) i.toNat) ∧ (s.1 = 0 → m_rr a g (m_T0 room) i.toNat = m_tl a g room)) (fun i s => K 36 [some (kr 33), some (kr c), some (ki room), some (ki s.1), some (ki i), none, none, none] [] s.2) ?_) (fun lp => ?_)
  · intro i s hi inv ih
    obtain ⟨b, ρ⟩ := s
    obtain ⟨i0, hb, F, hP, hfix⟩ := inv
    dsimp only at hb F hP hfix ⊢
    have PIi := PI i.toNat
    rw [m_rr_s i0] at ih
    have hend : i = 7 → m_rr a g (m_T0 room) i.toNat = m_tl a g room := fun e => by rw [e]; rfl
    have hnext : m_rn a g (m_rr a g (m_T0 room) i.toNat) (a 0).toNat = m_rr a g (m_T0 room) i.toNat → i < 7 → m_rr a g (m_T0 room) i.toNat = m_tl a g room := fun e hlt => by
      have := m_rr_fix (a := a) (g := g) (T := m_T0 room) (n := i.toNat) e (7 - i.toNat)
      rw [show i.toNat + (7 - i.toNat) = 7 by omega] at this
      exact this.symm
    obtain ⟨T, hT⟩ : ∃ T, T = m_rr a g (m_T0 room) i.toNat := ⟨_, rfl⟩
    rw [← hT] at hP hfix PIi hend hnext ih
    have PId := m_PI_rn ok hg8 PIi
    -- the doors
    refine kq_use (fun (hlt : i < 7) => kq_for (α := Int × KS) (a 0) (fun j s => 0 ≤ j ∧ (s.1 = 0 ∨ s.1 = 1) ∧ (∀ e, e ≠ 35 → s.2 e = σ e) ∧ m_PT s.2 (m_rn a g T j.toNat) ∧ (s.1 = 0 → m_rn a g T j.toNat = T)) (fun j s => K 52 [some (kr 33), some (kr c), some (ki room), some (ki s.1), some (ki i), some (ki j), none, none] [] s.2) ?_) (fun lp2 => ?_)
    · intro j s2 hj inv2 ih2
      obtain ⟨b2, τ⟩ := s2
      obtain ⟨j0, hb2, F2, hP2, hf2⟩ := inv2
      dsimp only at hb2 F2 hP2 hf2 ⊢
      have PIj := PId j.toNat (by omega)
      rw [m_rn_s j0] at ih2
      have hfin : j = a 0 → m_rn a g T j.toNat = m_rn a g T (a 0).toNat := fun e => by rw [e]
      obtain ⟨Tj, hTj⟩ : ∃ T', T' = m_rn a g T j.toNat := ⟨_, rfl⟩
      rw [← hTj] at hP2 hf2 PIj ih2 hfin
      have R2 : RepH τ c a := hR.cells (fun d h1 h2 => F2 d (by omega))
      have s0 : τ c 0 = a 0 := R2.1
      refine ks_iload (n := 54) S dX3_leadTo_52 rfl rfl ?_
      refine ks_aload_n (n := 55) S dX3_leadTo_54 rfl rfl ?_
      refine ks_getI (n := 58) (fi := 0) S dX3_leadTo_55 rfl fl_X3_18 hH.o rfl rfl ?_
      refine ks_icmp_ge (n := 61) (tgt := 131) S dX3_leadTo_58 rfl rfl (fun h58 => ?_) (fun h58 => ?_)
      · skip
        refine ks_iinc (n := 134) S dX3_leadTo_131 rfl rfl (by omega) (L' := fun yy => [some (kr 33), some (kr c), some (ki room), some (ki b2), some (ki yy), some (ki j), none, none]) (fun _ => rfl) (fun v4_131 hv131 => ?_)
        subst v4_131
        refine ks_goto (n := 36) S dX3_leadTo_134 rfl ?_
        refine ks_weak (L' := [some (kr 33), some (kr c), some (ki room), some (ki b2), some (ki _), none, none, none]) S ((And.intro rfl (And.intro rfl (And.intro rfl (And.intro rfl (And.intro rfl True.intro)))))) ?_
        have hf3 := hfin (by omega)
        rw [hf3] at hP2 hf2
        refine ih (b2, τ) hlt ⟨by omega, hb2, F2, hP2, fun h => ?_⟩
        have e8 := hf2 h
        rw [e8]
        exact hnext e8 hlt
      · skip
        obtain ⟨e1, e2, e3, e4, e5, e6⟩ := R2.2.2.2.1 j j0 (by omega)
        obtain ⟨o1, o2, o3, o4, o5, o6, o7, o8⟩ := ok.2.2.2.1 j j0 (by omega)
        obtain ⟨g1, g2, g3⟩ := hg j j0 (by omega)
        have t34 : g j = τ 34 j := by rw [F2 34 (by decide)]; exact g1
        refine ks_aload_n (n := 62) S dX3_leadTo_61 rfl rfl ?_
        refine ks_iload (n := 64) S dX3_leadTo_62 rfl rfl ?_
        refine ks_aload_n (n := 65) S dX3_leadTo_64 rfl rfl ?_
        refine ks_getr (n := 68) S dX3_leadTo_65 rfl fl_X3_29 hH.o rfl ?_
        refine ks_iload (n := 70) S dX3_leadTo_68 rfl rfl ?_
        refine ks_iaload (n := 71) S dX3_leadTo_70 rfl hH.a3 (by omega) ?_
        refine ks_aload_n (n := 72) S dX3_leadTo_71 rfl rfl ?_
        refine ks_getr (n := 75) S dX3_leadTo_72 rfl fl_X3_32 hH.o rfl ?_
        refine ks_iload (n := 77) S dX3_leadTo_75 rfl rfl ?_
        refine ks_iaload (n := 78) S dX3_leadTo_77 rfl hH.a4 (by omega) ?_
        refine ks_v3z (n := 81) S dX3_leadTo_78 rfl ml_X3_35 ym_X3_isCheaper (ev_X3_cheaper hP2 PIj (by omega) (by omega) (by omega) t34 ⟨g2, g3⟩) (by decide) rfl (Nat.le_of_ble_eq_true rfl) (fun r78 τ78 q78 => ?_)
        obtain ⟨b3, w1, w2, w3, w4, w5⟩ := q78
        have w1 := kq_si w1
        subst r78
        rw [e3, e4] at w4 w5
        have R3 : RepH τ78 c a := R2.cells (fun d h1 h2 => w3 d (by omega))
        obtain ⟨f1, f2, f3, f4, f5, f6⟩ := R3.2.2.2.1 j j0 (by omega)
        have t341 : g j = τ78 34 j := by rw [w3 34 (by decide)]; exact t34
        have PI1 := m_PI_rc (x := aD a j 2) (y := aD a j 3) PIj ⟨by omega, by omega⟩ ⟨by omega, by omega⟩ g3
        refine ks_istore (n := 83) S dX3_leadTo_81 rfl (L' := fun yy => [some (kr 33), some (kr c), some (ki room), some (ki b2), some (ki i), some (ki j), some (ki yy), none]) (Nat.le_of_ble_eq_true rfl) (fun _ => rfl) (fun v6_81 hv81 => ?_)
        subst v6_81
        refine ks_aload_n (n := 84) S dX3_leadTo_83 rfl rfl ?_
        refine ks_iload (n := 86) S dX3_leadTo_84 rfl rfl ?_
        refine ks_aload_n (n := 87) S dX3_leadTo_86 rfl rfl ?_
        refine ks_getr (n := 90) S dX3_leadTo_87 rfl fl_X3_32 hH.o rfl ?_
        refine ks_iload (n := 92) S dX3_leadTo_90 rfl rfl ?_
        refine ks_iaload (n := 93) S dX3_leadTo_92 rfl hH.a4 (by omega) ?_
        refine ks_aload_n (n := 94) S dX3_leadTo_93 rfl rfl ?_
        refine ks_getr (n := 97) S dX3_leadTo_94 rfl fl_X3_29 hH.o rfl ?_
        refine ks_iload (n := 99) S dX3_leadTo_97 rfl rfl ?_
        refine ks_iaload (n := 100) S dX3_leadTo_99 rfl hH.a3 (by omega) ?_
        refine ks_v3z (n := 103) S dX3_leadTo_100 rfl ml_X3_35 ym_X3_isCheaper (ev_X3_cheaper w4 PI1 (by omega) (by omega) (by omega) t341 ⟨g2, g3⟩) (by decide) rfl (Nat.le_of_ble_eq_true rfl) (fun r100 τ100 q100 => ?_)
        obtain ⟨b4, x1, x2, x3, x4, x5⟩ := q100
        have x1 := kq_si x1
        subst r100
        rw [f3, f4, ← m_rx_rc] at x4 x5
        have F3 : ∀ e, e ≠ 35 → τ100 e = σ e := fun e he => (x3 e he).trans ((w3 e he).trans (F2 e he))
        refine ks_istore (n := 105) S dX3_leadTo_103 rfl (L' := fun yy => [some (kr 33), some (kr c), some (ki room), some (ki b2), some (ki i), some (ki j), some (ki _), some (ki yy)]) (Nat.le_of_ble_eq_true rfl) (fun _ => rfl) (fun v7_103 hv103 => ?_)
        subst v7_103
        refine ks_iload_n (n := 106) S dX3_leadTo_105 rfl rfl ?_
        refine ks_if_ne (n := 109) (tgt := 119) S dX3_leadTo_106 rfl rfl (fun h106 => ?_) (fun h106 => ?_)
        · skip
          skip
          refine ks_iconst (n := 120) S dX3_leadTo_119 rfl (by unfold iv; decide) ?_
          refine ks_goto (n := 124) S dX3_leadTo_120 rfl ?_
          refine ks_istore_n (n := 125) S dX3_leadTo_124 rfl rfl (L' := fun yy => [some (kr 33), some (kr c), some (ki room), some (ki yy), some (ki i), some (ki j), some (ki _), some (ki _)]) (Nat.le_of_ble_eq_true rfl) (fun _ => rfl) (fun v3_124 hv124 => ?_)
          obtain rfl : v3_124 = 1 := by omega
          refine ks_iinc (n := 128) S dX3_leadTo_125 rfl rfl (by omega) (L' := fun yy => [some (kr 33), some (kr c), some (ki room), some (ki (1)), some (ki i), some (ki yy), some (ki _), some (ki _)]) (fun _ => rfl) (fun v5_125 hv125 => ?_)
          subst v5_125
          refine ks_goto (n := 52) S dX3_leadTo_128 rfl ?_
          refine ks_weak (L' := [some (kr 33), some (kr c), some (ki room), some (ki (1)), some (ki i), some (ki _), none, none]) S ((And.intro rfl (And.intro rfl (And.intro rfl (And.intro rfl (And.intro rfl (And.intro rfl True.intro))))))) ?_
          first | (refine ih2 (0, τ100) (by omega) ⟨by omega, Or.inl rfl, F3, x4, fun _ => ?_⟩; rw [x5 (by omega), w5 (by omega)]; exact hf2 (by omega)) | exact ih2 (1, τ100) (by omega) ⟨by omega, Or.inr rfl, F3, x4, fun h => by dsimp only at h; omega⟩
        · skip
          skip
          refine ks_iload (n := 111) S dX3_leadTo_109 rfl rfl ?_
          refine ks_if_ne (n := 114) (tgt := 119) S dX3_leadTo_111 rfl rfl (fun h111 => ?_) (fun h111 => ?_)
          · skip
            skip
            refine ks_iconst (n := 120) S dX3_leadTo_119 rfl (by unfold iv; decide) ?_
            refine ks_goto (n := 124) S dX3_leadTo_120 rfl ?_
            refine ks_istore_n (n := 125) S dX3_leadTo_124 rfl rfl (L' := fun yy => [some (kr 33), some (kr c), some (ki room), some (ki yy), some (ki i), some (ki j), some (ki _), some (ki _)]) (Nat.le_of_ble_eq_true rfl) (fun _ => rfl) (fun v3_124 hv124 => ?_)
            obtain rfl : v3_124 = 1 := by omega
            refine ks_iinc (n := 128) S dX3_leadTo_125 rfl rfl (by omega) (L' := fun yy => [some (kr 33), some (kr c), some (ki room), some (ki (1)), some (ki i), some (ki yy), some (ki _), some (ki _)]) (fun _ => rfl) (fun v5_125 hv125 => ?_)
            subst v5_125
            refine ks_goto (n := 52) S dX3_leadTo_128 rfl ?_
            refine ks_weak (L' := [some (kr 33), some (kr c), some (ki room), some (ki (1)), some (ki i), some (ki _), none, none]) S ((And.intro rfl (And.intro rfl (And.intro rfl (And.intro rfl (And.intro rfl (And.intro rfl True.intro))))))) ?_
            first | (refine ih2 (0, τ100) (by omega) ⟨by omega, Or.inl rfl, F3, x4, fun _ => ?_⟩; rw [x5 (by omega), w5 (by omega)]; exact hf2 (by omega)) | exact ih2 (1, τ100) (by omega) ⟨by omega, Or.inr rfl, F3, x4, fun h => by dsimp only at h; omega⟩
          · skip
            skip
            refine ks_iload (n := 116) S dX3_leadTo_114 rfl rfl ?_
            refine ks_if_eq (n := 119) (tgt := 123) S dX3_leadTo_116 rfl rfl (fun h116 => ?_) (fun h116 => ?_)
            · skip
              skip
              refine ks_iconst (n := 124) S dX3_leadTo_123 rfl (by unfold iv; decide) ?_
              refine ks_istore_n (n := 125) S dX3_leadTo_124 rfl rfl (L' := fun yy => [some (kr 33), some (kr c), some (ki room), some (ki yy), some (ki i), some (ki j), some (ki _), some (ki _)]) (Nat.le_of_ble_eq_true rfl) (fun _ => rfl) (fun v3_124 hv124 => ?_)
              obtain rfl : v3_124 = 0 := by omega
              refine ks_iinc (n := 128) S dX3_leadTo_125 rfl rfl (by omega) (L' := fun yy => [some (kr 33), some (kr c), some (ki room), some (ki (0)), some (ki i), some (ki yy), some (ki _), some (ki _)]) (fun _ => rfl) (fun v5_125 hv125 => ?_)
              subst v5_125
              refine ks_goto (n := 52) S dX3_leadTo_128 rfl ?_
              refine ks_weak (L' := [some (kr 33), some (kr c), some (ki room), some (ki (0)), some (ki i), some (ki _), none, none]) S ((And.intro rfl (And.intro rfl (And.intro rfl (And.intro rfl (And.intro rfl (And.intro rfl True.intro))))))) ?_
              first | (refine ih2 (0, τ100) (by omega) ⟨by omega, Or.inl rfl, F3, x4, fun _ => ?_⟩; rw [x5 (by omega), w5 (by omega)]; exact hf2 (by omega)) | exact ih2 (1, τ100) (by omega) ⟨by omega, Or.inr rfl, F3, x4, fun h => by dsimp only at h; omega⟩
            · skip
              skip
              refine ks_iconst (n := 120) S dX3_leadTo_119 rfl (by unfold iv; decide) ?_
              refine ks_goto (n := 124) S dX3_leadTo_120 rfl ?_
              refine ks_istore_n (n := 125) S dX3_leadTo_124 rfl rfl (L' := fun yy => [some (kr 33), some (kr c), some (ki room), some (ki yy), some (ki i), some (ki j), some (ki _), some (ki _)]) (Nat.le_of_ble_eq_true rfl) (fun _ => rfl) (fun v3_124 hv124 => ?_)
              obtain rfl : v3_124 = 1 := by omega
              refine ks_iinc (n := 128) S dX3_leadTo_125 rfl rfl (by omega) (L' := fun yy => [some (kr 33), some (kr c), some (ki room), some (ki (1)), some (ki i), some (ki yy), some (ki _), some (ki _)]) (fun _ => rfl) (fun v5_125 hv125 => ?_)
              subst v5_125
              refine ks_goto (n := 52) S dX3_leadTo_128 rfl ?_
              refine ks_weak (L' := [some (kr 33), some (kr c), some (ki room), some (ki (1)), some (ki i), some (ki _), none, none]) S ((And.intro rfl (And.intro rfl (And.intro rfl (And.intro rfl (And.intro rfl (And.intro rfl True.intro))))))) ?_
              first | (refine ih2 (0, τ100) (by omega) ⟨by omega, Or.inl rfl, F3, x4, fun _ => ?_⟩; rw [x5 (by omega), w5 (by omega)]; exact hf2 (by omega)) | exact ih2 (1, τ100) (by omega) ⟨by omega, Or.inr rfl, F3, x4, fun h => by dsimp only at h; omega⟩
    refine ks_iload (n := 38) S dX3_leadTo_36 rfl rfl ?_
    refine ks_bipush (n := 40) S dX3_leadTo_38 rfl (by unfold iv; decide) ?_
    refine ks_icmp_ge (n := 43) (tgt := 137) S dX3_leadTo_40 rfl rfl (fun h40 => ?_) (fun h40 => ?_)
    · skip
      refine ks_vret S dX3_leadTo_137 ?_
      refine ⟨rfl, F, ?_⟩
      first | (rw [← hend (by omega)]; exact hP) | (rw [← hfix (by omega)]; exact hP)
    · skip
      refine ks_iload_n (n := 44) S dX3_leadTo_43 rfl rfl ?_
      refine ks_if_eq (n := 47) (tgt := 137) S dX3_leadTo_44 rfl rfl (fun h44 => ?_) (fun h44 => ?_)
      · skip
        refine ks_vret S dX3_leadTo_137 ?_
        refine ⟨rfl, F, ?_⟩
        first | (rw [← hend (by omega)]; exact hP) | (rw [← hfix (by omega)]; exact hP)
      · skip
        refine ks_iconst (n := 48) S dX3_leadTo_47 rfl (by unfold iv; decide) ?_
        refine ks_istore_n (n := 49) S dX3_leadTo_48 rfl rfl (L' := fun yy => [some (kr 33), some (kr c), some (ki room), some (ki yy), some (ki i), none, none, none]) (Nat.le_of_ble_eq_true rfl) (fun _ => rfl) (fun v3_48 hv48 => ?_)
        obtain rfl : v3_48 = 0 := by omega
        refine ks_iconst (n := 50) S dX3_leadTo_49 rfl (by unfold iv; decide) ?_
        refine ks_istore (n := 52) S dX3_leadTo_50 rfl (L' := fun yy => [some (kr 33), some (kr c), some (ki room), some (ki (0)), some (ki i), some (ki yy), none, none]) (Nat.le_of_ble_eq_true rfl) (fun _ => rfl) (fun v5_50 hv50 => ?_)
        obtain rfl : v5_50 = 0 := by omega
        exact lp2 (by omega) 0 (0, ρ) n9.1 ⟨by omega, Or.inl rfl, F, hP, fun _ => rfl⟩
  refine kq_use (kq_for (α := KS) 7 (fun i τ => 0 ≤ i ∧ (∀ e, e ≠ 35 → τ e = σ e) ∧ ∀ q, 0 ≤ q → q < i → τ 35 q = m_f (m_T0 room q)) (fun i τ => K 2 [some (kr 33), some (kr c), some (ki room), some (ki i), none, none, none, none] [] τ) ?_) (fun lp0 => ?_)
  · intro i τ hi inv ih
    obtain ⟨i0, F, hz⟩ := inv
    refine ks_iload_n (n := 3) S dX3_leadTo_2 rfl rfl ?_
    refine ks_bipush (n := 5) S dX3_leadTo_3 rfl (by unfold iv; decide) ?_
    refine ks_icmp_ge (n := 8) (tgt := 31) S dX3_leadTo_5 rfl rfl (fun h5 => ?_) (fun h5 => ?_)
    · skip
      refine ks_iconst (n := 32) S dX3_leadTo_31 rfl (by unfold iv; decide) ?_
      refine ks_istore_n (n := 33) S dX3_leadTo_32 rfl rfl (L' := fun yy => [some (kr 33), some (kr c), some (ki room), some (ki yy), none, none, none, none]) (Nat.le_of_ble_eq_true rfl) (fun _ => rfl) (fun v3_32 hv32 => ?_)
      obtain rfl : v3_32 = 1 := by omega
      refine ks_iconst (n := 34) S dX3_leadTo_33 rfl (by unfold iv; decide) ?_
      refine ks_istore (n := 36) S dX3_leadTo_34 rfl (L' := fun yy => [some (kr 33), some (kr c), some (ki room), some (ki (1)), some (ki yy), none, none, none]) (Nat.le_of_ble_eq_true rfl) (fun _ => rfl) (fun v4_34 hv34 => ?_)
      obtain rfl : v4_34 = 0 := by omega
      exact lp 0 (1, τ) (by omega) ⟨by omega, Or.inr rfl, F, fun q q0 q1 => hz q q0 (by omega), fun h => by dsimp only at h; omega⟩
    · skip
      refine ks_aload_n (n := 9) S dX3_leadTo_8 rfl rfl ?_
      refine ks_getr (n := 12) S dX3_leadTo_9 rfl fl_X3_15 rfl rfl ?_
      refine ks_iload_n (n := 13) S dX3_leadTo_12 rfl rfl ?_
      refine ks_iload_n (n := 14) S dX3_leadTo_13 rfl rfl ?_
      refine ks_iload_n (n := 15) S dX3_leadTo_14 rfl rfl ?_
      refine ks_icmp_ne (n := 18) (tgt := 22) S dX3_leadTo_15 rfl rfl (fun h15 => ?_) (fun h15 => ?_)
      · skip
        refine ks_ldc (n := 24) (x := 1000000) S dX3_leadTo_22 rfl ct_X3_28 (by unfold iv; decide +kernel) ?_
        refine ks_iastore (n := 25) S dX3_leadTo_24 rfl rfl (by omega) ?_
        refine ks_iinc (n := 28) S dX3_leadTo_25 rfl rfl (by omega) (L' := fun yy => [some (kr 33), some (kr c), some (ki room), some (ki yy), none, none, none, none]) (fun _ => rfl) (fun v3_25 hv25 => ?_)
        subst v3_25
        refine ks_goto (n := 2) S dX3_leadTo_28 rfl ?_
        refine ih _ (by omega) ⟨by omega, fun e he => ?_, fun q q0 q1 => ?_⟩
        · rw [← F e he]; funext j; exact kq_up_c he
        · rw [kq_up_of]; split
          · rename_i hqi
            unfold m_T0 m_f
            first | (rw [if_pos (show q = room by omega)]; decide) | (rw [if_neg (show ¬ q = room by omega)]; decide)
          · exact hz q q0 (by omega)
      · skip
        refine ks_iconst (n := 19) S dX3_leadTo_18 rfl (by unfold iv; decide) ?_
        refine ks_goto (n := 24) S dX3_leadTo_19 rfl ?_
        refine ks_iastore (n := 25) S dX3_leadTo_24 rfl rfl (by omega) ?_
        refine ks_iinc (n := 28) S dX3_leadTo_25 rfl rfl (by omega) (L' := fun yy => [some (kr 33), some (kr c), some (ki room), some (ki yy), none, none, none, none]) (fun _ => rfl) (fun v3_25 hv25 => ?_)
        subst v3_25
        refine ks_goto (n := 2) S dX3_leadTo_28 rfl ?_
        refine ih _ (by omega) ⟨by omega, fun e he => ?_, fun q q0 q1 => ?_⟩
        · rw [← F e he]; funext j; exact kq_up_c he
        · rw [kq_up_of]; split
          · rename_i hqi
            unfold m_T0 m_f
            first | (rw [if_pos (show q = room by omega)]; decide) | (rw [if_neg (show ¬ q = room by omega)]; decide)
          · exact hz q q0 (by omega)
  refine ks_iconst (n := 1) S dX3_leadTo_0 rfl (by unfold iv; decide) ?_
  refine ks_istore_n (n := 2) S dX3_leadTo_1 rfl rfl (L' := fun yy => [some (kr 33), some (kr c), some (ki room), some (ki yy), none, none, none, none]) (Nat.le_of_ble_eq_true rfl) (fun _ => rfl) (fun v3_1 hv1 => ?_)
  obtain rfl : v3_1 = 0 := by omega
  exact lp0 0 σ (by omega) ⟨by omega, fun _ _ => rfl, fun q q0 q1 => by omega⟩
end WAYS3

