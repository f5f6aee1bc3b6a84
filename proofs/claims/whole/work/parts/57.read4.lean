section READ4
variable {l : Launch} {σ M : KS} {w a : RW} {n b : Int}
theorem m_NU.q {τ : KS} (h : m_NU τ w n b) (hc : m_at w n b = 100 ∨ m_at w n b = 112 ∨ m_at w n b = 111 ∨ m_at w n b = 113 ∨ m_at w n b = 97 ∨ m_at w n b = 104) : m_hq a (m_at w n b) (τ 46 0) (τ 46 1) (τ 46 2) (τ 46 3) ↔ m_hqa a w n b := by
  obtain ⟨h0, h1, h2, h3⟩ := h
  rcases hc with hc | hc | hc | hc | hc | hc
  · rw [h0, h1 (by omega), h2 (by omega), h3 hc]
  · refine (hq_p hc).trans (Iff.trans ?_ (hq_p hc).symm)
    rw [h1 (by omega)]
  · refine (hq_o hc).trans (Iff.trans ?_ (hq_o hc).symm)
    rw [h0, h1 (by omega)]
  · refine (hq_q hc).trans (Iff.trans ?_ (hq_q hc).symm)
    rw [h0, h2 (by omega)]
  · refine (hq_a hc).trans (Iff.trans ?_ (hq_a hc).symm)
    rw [h0]
  · refine (hq_h hc).trans (Iff.trans ?_ (hq_h hc).symm)
    rw [h0]
theorem m_NU.hw {τ : KS} (h : m_NU τ w n b) (hc : m_at w n b = 100 ∨ m_at w n b = 112 ∨ m_at w n b = 111 ∨ m_at w n b = 113 ∨ m_at w n b = 97 ∨ m_at w n b = 104) : m_hw a (m_at w n b) (τ 46 0) (τ 46 1) (τ 46 2) (τ 46 3) = m_hwa a w n b := by
  obtain ⟨h0, h1, h2, h3⟩ := h
  unfold m_hwa m_hw
  rcases hc with hc | hc | hc | hc | hc | hc
  · rw [h0, h1 (by omega), h2 (by omega), h3 hc]
  · rw [if_neg (by omega), if_pos hc, if_neg (by omega), if_pos hc, h0, h1 (by omega)]
  · rw [if_neg (by omega), if_neg (by omega), if_pos hc, if_neg (by omega), if_neg (by omega), if_pos hc, h0, h1 (by omega)]
  · rw [if_neg (by omega), if_neg (by omega), if_neg (by omega), if_pos hc, if_neg (by omega), if_neg (by omega), if_neg (by omega), if_pos hc, h0, h1 (by omega), h2 (by omega)]
  · rw [if_neg (by omega), if_neg (by omega), if_neg (by omega), if_neg (by omega), if_pos hc, if_neg (by omega), if_neg (by omega), if_neg (by omega), if_neg (by omega), if_pos hc, h0]
  · rw [if_neg (by omega), if_neg (by omega), if_neg (by omega), if_neg (by omega), if_neg (by omega), if_neg (by omega), if_neg (by omega), if_neg (by omega), if_neg (by omega), if_neg (by omega), h0]
theorem m_ln_six {v : Int} (h : 3 ≤ m_ln v) : v = 100 ∨ v = 112 ∨ v = 111 ∨ v = 113 ∨ v = 97 ∨ v = 104 := by
  unfold m_ln at h
  (repeat' split at h) <;> omega
theorem m_x0_b (hb : 0 ≤ b) (hf : m_fp w n b = -9) : 0 ≤ m_x0 w n b ∧ m_x0 w n b ≤ 99 := by
  obtain ⟨h1, h3, h4⟩ := m_fp_fits hb hf
  have d1 := m_dg_b (w := w) (n := n) (j := b + 1)
  have d2 := m_dg_b (w := w) (n := n) (j := b + 2)
  have hk : m_at w n b = 100 → 0 ≤ m_kind (m_at w n (b + 1)) ∧ m_kind (m_at w n (b + 1)) ≤ 5 := fun h => by
    have := h4 (b + 1) (by omega) (by omega)
    have hne : m_kind (m_at w n (b + 1)) ≠ -9 := by omega
    unfold m_kind at hne ⊢
    (repeat' split) <;> omega
  unfold m_x0
  (repeat' split) <;> omega
theorem m_fp_b : m_fp w n b = -9 ∨ (b ≤ m_fp w n b ∧ m_fp w n b ≤ b + 6) := by
  have hl := m_ln_b (v := m_at w n b)
  unfold m_fp
  split
  · exact Or.inr (by omega)
  · by_cases hx : ∃ d, b + 1 ≤ d ∧ d < b + 1 + ((m_ln (m_at w n b) - 1).toNat : Int) ∧ (fun j => decide (¬ m_ft w n j b (m_ln (m_at w n b)))) d = true
    · have := m_fi_some _ _ hx
      exact Or.inr (by omega)
    · exact Or.inl (m_fi_none _ _ (fun j y1 y2 y3 => hx ⟨j, y1, y2, y3⟩))
def FrB (σ s : KS) : Prop := (∀ c, c ≠ 38 → c ≠ 39 → c ≠ 42 → c ≠ 46 → s c = σ c) ∧ ∀ f, f ≠ 10 → s 38 f = σ 38 f
theorem FrB.nn {s t : KS} (h : FrB σ s) (g : FrN s t) : FrB σ t := ⟨fun c h1 h2 h3 h4 => (g.1 c h1 h4).trans (h.1 c h1 h2 h3 h4), fun f hf => (g.2 f hf).trans (h.2 f hf)⟩
theorem FrB.ofN {s : KS} (g : FrN σ s) : FrB σ s := ⟨fun c h1 _ _ h4 => g.1 c h1 h4, g.2⟩
theorem FrB.c {s : KS} {d : Nat} {r : RW} (h : FrB σ s) (hd : d = 39 ∨ d = 42) : FrB σ (sr s d r) := ⟨fun c h1 h2 h3 h4 => by rw [sr_n (by omega)]; exact h.1 c h1 h2 h3 h4, fun f hf => by rw [sr_n (by omega)]; exact h.2 f hf⟩
theorem m_RT.fb {s : KS} (h : m_RT σ w n) (g : FrB σ s) : m_RT s w n := ⟨by rw [g.2 8 (by decide)]; exact h.1, h.2.1, by rw [g.1 43 (by decide) (by decide) (by decide) (by decide)]; exact h.2.2⟩
theorem RR.fb {s N : KS} (h : RR σ M) (g : FrB σ s) (hN : ∀ c, c ≠ 39 → N c = M c) (h39 : s 39 = N 39) (z : Zr (s 42)) : RR s N := by
  obtain ⟨h1, h2, h3, h4, h5, h6, h7, h8, h9, h10⟩ := h
  have e := fun c h1 h2 h3 h4 => g.1 c h1 h2 h3 h4
  refine ⟨h39, ?_, ?_, ?_, ?_, ?_, ?_, ?_, ?_, z⟩
  · rw [e 41 (by decide) (by decide) (by decide) (by decide), hN 41 (by decide)]; exact h2
  · rw [g.2 4 (by decide), hN 38 (by decide)]; exact h3
  · rw [g.2 8 (by decide), hN 38 (by decide)]; exact h4
  · rw [g.2 9 (by decide), hN 38 (by decide)]; exact h5
  · rw [e 43 (by decide) (by decide) (by decide) (by decide), hN 43 (by decide)]; exact h6
  · rw [e 44 (by decide) (by decide) (by decide) (by decide), hN 44 (by decide)]; exact h7
  · rw [e 45 (by decide) (by decide) (by decide) (by decide), hN 45 (by decide)]; exact h8
  · rw [e 40 (by decide) (by decide) (by decide) (by decide)]; exact h9
theorem RR.noLet {σ M : KS} (h : RR σ M) : RR (kq_up σ 38 8 0) (kq_up M 38 8 0) := by
  obtain ⟨q1, q2, q3, q4, q5, q6, q7, q8, q9, q10⟩ := h
  refine RR.fields ⟨q1, q2, q3, q4, q5, q6, q7, q8, q9, q10⟩ (fun d hd => funext fun j => by rw [kq_up_c (by omega)]) (fun d hd => funext fun j => by rw [kq_up_c (by omega)]) ?_ ?_ ?_ ?_ ?_ ?_
  · rw [kq_up_i (by decide), kq_up_i (by decide)]; exact q3
  · rw [kq_up_s, kq_up_s]
  · rw [kq_up_i (by decide), kq_up_i (by decide)]; exact q5
  · funext j; rw [kq_up_c (by decide), kq_up_c (by decide), q6]
  · funext j; rw [kq_up_c (by decide), kq_up_c (by decide), q7]
  · funext j; rw [kq_up_c (by decide), kq_up_c (by decide), q8]
theorem pr_house (hM : OkM M) (hR : RR σ M) : Ev l yX5_house cX5_house 6 (some .int) 5 109 [kr 38] σ (QR (A_house M) σ) := by
  have e39 : σ 39 = M 39 := hR.1
  have ok := hM.1
  have h99 := hM.2.1
  have z39 := hM.2.2.1
  have nb := hM.2.2.2.2.2.1
  have z42 : Zr (σ 42) := hR.2.2.2.2.2.2.2.2.2
  have hT : m_RT σ (M 43) (M 38 8) := ⟨hR.2.2.2.1, nb, hR.2.2.2.2.2.1⟩
  have hA : A_house M = if m_sl (M 43) (M 38 8) 96 0 = -9 then (if m_cf (M 43) (M 38 8) 96 0 (M 39) = -9 then (m_sc (M 43) (M 38 8) 96 0, kq_up (mH M (m_ca (M 43) (M 38 8) 96 0 (M 39))) 38 8 0) else (-2000 - m_cf (M 43) (M 38 8) 96 0 (M 39), kq_up M 38 8 0)) else (-1000 - m_sl (M 43) (M 38 8) 96 0, kq_up M 38 8 0) := rfl
  generalize A_house M = A at *
  generalize hw : M 43 = w at *
  generalize hn : M 38 8 = n at *
  have bF := m_sl_b (w := w) (n := n) 96 0 (by omega)
  have bC := m_cf_b (w := w) (n := n) 96 0 (M 39) (by omega)
  refine ev_intro ym_X5_house.1 (Nat.le_of_ble_eq_true rfl) (fun hv hσ K S => ?_)
  have hv := hv
  show K 0 [some (kr 38), none, none, none, none, none] [] σ
  refine kq_use (p := ∀ (s N : KS) (many fault x : Int), RR s N → (∀ c, c < 38 → s c = σ c) → x = (if fault = -9 then many else fault) → A = (x, kq_up N 38 8 0) → K 128 [some (kr 38), some (ki many), some (ki fault), none, none, none] [] s) ?_ (fun h128 => ?_)
  · intro s N many fault x hN hF hx hA
    refine ks_aload_n (n := 129) S dX5_house_128 rfl rfl ?_
    refine ks_iconst (n := 130) S dX5_house_129 rfl (by unfold iv; decide) ?_
    refine ks_putI (n := 133) (fi := 8) S dX5_house_130 rfl fw_X5_87 rfl rfl (Or.inl rfl) rfl ?_
    refine ks_iload_n (n := 134) S dX5_house_133 rfl rfl ?_
    refine ks_bipush (n := 136) S dX5_house_134 rfl (by unfold iv; decide) ?_
    refine ks_icmp_ne (n := 139) (tgt := 143) S dX5_house_136 rfl rfl (fun h136 => ?_) (fun h136 => ?_)
    · skip
      refine ks_iload_n (n := 144) S dX5_house_143 rfl rfl ?_
      refine ks_iret S dX5_house_144 ?_
      refine qr_mk hN.noLet (fun c hc => by rw [show kq_up s 38 8 0 c = s c from funext fun j => kq_up_c (by omega)]; exact hF c hc) ?_
      first | rw [hA, hx, if_neg (by omega)] | rw [hA, hx, if_pos (by omega)]
    · skip
      refine ks_iload_n (n := 140) S dX5_house_139 rfl rfl ?_
      refine ks_goto (n := 144) S dX5_house_140 rfl ?_
      refine ks_iret S dX5_house_144 ?_
      refine qr_mk hN.noLet (fun c hc => by rw [show kq_up s 38 8 0 c = s c from funext fun j => kq_up_c (by omega)]; exact hF c hc) ?_
      first | rw [hA, hx, if_neg (by omega)] | rw [hA, hx, if_pos (by omega)]
  refine kq_use (p := ∀ (s : KS) (many fault : Int), fault ≠ -9 → FrB σ s → s 39 = M 39 → Zr (s 42) → A = (fault, kq_up M 38 8 0) → K 62 [some (kr 38), some (ki many), some (ki fault), none, none, none] [] s) ?_ (fun h62 => ?_)
  · intro s many fault hf hB h39 hz hA
    refine ks_iload_n (n := 63) S dX5_house_62 rfl rfl ?_
    refine ks_bipush (n := 65) S dX5_house_63 rfl (by unfold iv; decide) ?_
    refine ks_icmp_ne (n := 68) (tgt := 128) S dX5_house_65 rfl rfl (fun h65 => ?_) (fun h65 => ?_)
    rotate_left
    · omega
    exact h128 s M many fault fault (hR.fb hB (fun _ _ => rfl) h39 hz) (fun c hc => hB.1 c (by omega) (by omega) (by omega) (by omega)) (by rw [if_neg hf]) hA
  refine kq_use (p := m_sl w n 96 0 = -9 → ∀ i (s : (KS × RW) × Int), i ≤ 96 → (0 ≤ i ∧ 3 * i ≤ s.2 ∧ s.2 ≤ n ∧ FrB σ s.1.1 ∧ s.1.1 39 = s.1.2 ∧ s.1.1 42 = M 39 ∧ OkR s.1.2 ∧ s.1.2 2 ≤ 999 ∧ Zr s.1.2 ∧ s.1.1 38 10 = s.2 ∧ ((s.2 < n ∧ m_sl w n (96 - i).toNat s.2 = -9 ∧ m_cf w n (96 - i).toNat s.2 s.1.2 = m_cf w n 96 0 (M 39) ∧ m_ca w n (96 - i).toNat s.2 s.1.2 = m_ca w n 96 0 (M 39)) ∨ (s.2 = n ∧ m_cf w n 96 0 (M 39) = -9 ∧ s.1.2 = m_ca w n 96 0 (M 39)))) → K 62 [some (kr 38), some (ki (m_sc w n 96 0)), some (ki (-9)), none, none, none] [] s.1.1) ?_ (fun lp2 => ?_)
  · intro hs
    rw [if_pos hs] at hA
    refine kq_for (α := (KS × RW) × Int) 96 _ _ ?_
    rintro i ⟨⟨s, a'⟩, b⟩ hi inv ih
    obtain ⟨i0, i1, i2, iB, i39, i42, io, i99, iz, ip, vv⟩ := inv
    replace i1 : 3 * i ≤ b := i1
    replace i2 : b ≤ n := i2
    replace iB : FrB σ s := iB
    replace i39 : s 39 = a' := i39
    replace i42 : s 42 = M 39 := i42
    replace io : OkR a' := io
    replace i99 : a' 2 ≤ 999 := i99
    replace iz : Zr a' := iz
    replace ip : s 38 10 = b := ip
    replace vv : (b < n ∧ m_sl w n (96 - i).toNat b = -9 ∧ m_cf w n (96 - i).toNat b a' = m_cf w n 96 0 (M 39) ∧ m_ca w n (96 - i).toNat b a' = m_ca w n 96 0 (M 39)) ∨ (b = n ∧ m_cf w n 96 0 (M 39) = -9 ∧ a' = m_ca w n 96 0 (M 39)) := vv
    show K 62 [some (kr 38), some (ki (m_sc w n 96 0)), some (ki (-9)), none, none, none] [] s
    have hT2 := hT.fb iB
    have hn8 := hT2.1
    have hh := m_hr_at (w := w) (n := n) (j := b) (by omega)
    refine ks_iload_n (n := 63) S dX5_house_62 rfl rfl ?_
    refine ks_bipush (n := 65) S dX5_house_63 rfl (by unfold iv; decide) ?_
    refine ks_icmp_ne (n := 68) (tgt := 128) S dX5_house_65 rfl rfl (fun h65 => ?_) (fun h65 => ?_)
    · omega
    refine ks_aload_n (n := 69) S dX5_house_68 rfl rfl ?_
    refine ks_getI (n := 72) (fi := 10) S dX5_house_69 rfl fl_X5_91 rfl rfl rfl ?_
    refine ks_aload_n (n := 73) S dX5_house_72 rfl rfl ?_
    refine ks_getI (n := 76) (fi := 8) S dX5_house_73 rfl fl_X5_87 rfl rfl rfl ?_
    refine ks_icmp_ge (n := 79) (tgt := 128) S dX5_house_76 rfl rfl (fun h76 => ?_) (fun h76 => ?_)
    · skip
      rcases vv with v | v
      · omega
      · rw [if_pos v.2.1] at hA
        exact h128 s (mH M (m_ca w n 96 0 (M 39))) _ _ (m_sc w n 96 0) (hR.fb iB (fun c hc => by unfold mH; exact sr_n hc) (by unfold mH; rw [sr_r, i39]; exact v.2.2) (by rw [i42]; exact z39)) (fun c hc => iB.1 c (by omega) (by omega) (by omega) (by omega)) (by rw [if_pos rfl]) hA
    · skip
      have vv' : b < n ∧ m_sl w n (96 - i).toNat b = -9 ∧ m_cf w n (96 - i).toNat b a' = m_cf w n 96 0 (M 39) ∧ m_ca w n (96 - i).toNat b a' = m_ca w n 96 0 (M 39) := by
        rcases vv with h | h
        · exact h
        · omega
      have hhr : m_hr w n b = m_at w n b := by
        rcases hh with h | h
        · exact h.1
        · omega
      clear hh vv bF bC
      obtain ⟨v1, v2, v3, v4⟩ := vv'
      rw [m_sl_s (by omega)] at v2
      rw [m_cf_s (by omega)] at v3
      rw [m_ca_s (by omega)] at v4
      have hf : m_fp w n b = -9 := by
        split at v2
        · assumption
        · exact v2
      rw [if_pos hf] at v2
      have he := m_fp_end (by omega) hf
      have hl3 := (m_fp_fits (by omega) hf).1
      refine ks_aload_n (n := 80) S dX5_house_79 rfl rfl ?_
      refine ks_getI (n := 83) (fi := 10) S dX5_house_80 rfl fl_X5_91 rfl rfl rfl ?_
      rw [ip]
      refine ks_istore_n (n := 84) S dX5_house_83 rfl rfl (L' := fun yy => [some (kr 38), some (ki (m_sc w n 96 0)), some (ki (-9)), some (ki yy), none, none]) (Nat.le_of_ble_eq_true rfl) (fun _ => rfl) (fun v3_83 hv83 => ?_)
      subst v3_83
      refine ks_aload_n (n := 85) S dX5_house_84 rfl rfl ?_
      refine kf_v0i (n := 88) S dX5_house_85 rfl ml_X5_94 ym_X5_here (ev_X5_here hT2 ip (by omega)) (by decide) rfl (Nat.le_of_ble_eq_true rfl) ?_
      rw [hhr]
      refine ks_istore (n := 90) S dX5_house_88 rfl (L' := fun yy => [some (kr 38), some (ki (m_sc w n 96 0)), some (ki (-9)), some (ki _), some (ki yy), none]) (Nat.le_of_ble_eq_true rfl) (fun _ => rfl) (fun v4_88 hv88 => ?_)
      subst v4_88
      refine ks_aload_n (n := 91) S dX5_house_90 rfl rfl ?_
      refine ks_v0z (n := 94) S dX5_house_91 rfl ml_X5_134 ym_X5_readsStatement (ev_X5_readsStatement hT2 ip (by omega)) (by decide) rfl (Nat.le_of_ble_eq_true rfl) (fun r91 τ91 q91 => ?_)
      obtain ⟨y91, F91, g91, -⟩ := q91
      have y91 := kq_si y91
      subst y91
      obtain ⟨p91, n91⟩ := g91 hf
      have t39 : τ91 39 = a' := by rw [F91.1 39 (by decide) (by decide)]; exact i39
      have t42 : τ91 42 = M 39 := by rw [F91.1 42 (by decide) (by decide)]; exact i42
      have x0 := m_x0_b (w := w) (n := n) (by omega) hf
      have n0 := n91.1
      have x46 : 0 ≤ τ91 46 0 ∧ τ91 46 0 ≤ 99 := by omega
      have h6 := m_ln_six hl3
      refine ks_istore (n := 96) S dX5_house_94 rfl (L' := fun yy => [some (kr 38), some (ki (m_sc w n 96 0)), some (ki (-9)), some (ki _), some (ki _), some (ki yy)]) (Nat.le_of_ble_eq_true rfl) (fun _ => rfl) (fun v5_94 hv94 => ?_)
      subst v5_94
      refine ks_aload_n (n := 97) S dX5_house_96 rfl rfl ?_
      refine ks_iload (n := 99) S dX5_house_97 rfl rfl ?_
      refine ks_v1z (n := 102) S dX5_house_99 rfl ml_X5_141 ym_X5_isDone (ev_X5_isDone (by rw [t39]; exact io) (by rw [t39]; exact i99) x46 h6) (by decide) rfl (Nat.le_of_ble_eq_true rfl) (fun r99 τ99 q99 => ?_)
      obtain ⟨y99, e99⟩ := q99
      have y99 := kq_si y99
      subst y99
      refine ks_if_eq (n := 105) (tgt := 108) S dX5_house_102 rfl rfl (fun h102 => ?_) (fun h102 => ?_)
      · skip
        simp only [bi_eq, bi_ne, Classical.not_not] at h102
        rw [t39, n91.q h6] at h102
        rw [t39, n91.hw h6] at e99
        rw [if_neg (fun y => h102 ((n91.q h6).1 y))] at e99
        rw [if_neg h102] at v3
        subst e99
        refine ks_sipush (n := 111) S dX5_house_108 rfl (by unfold iv; decide) ?_
        refine ks_iload_n (n := 112) S dX5_house_111 rfl rfl ?_
        refine ks_isub (n := 113) S dX5_house_112 rfl (by omega) ?_
        refine ks_istore_n (n := 114) S dX5_house_113 rfl rfl (L' := fun yy => [some (kr 38), some (ki (m_sc w n 96 0)), some (ki yy), some (ki _), some (ki _), some (ki _)]) (Nat.le_of_ble_eq_true rfl) (fun _ => rfl) (fun v2_113 hv113 => ?_)
        subst v2_113
        refine ks_aload_n (n := 115) S dX5_house_114 rfl rfl ?_
        refine ks_getr (n := 118) S dX5_house_115 rfl fl_X5_19 rfl rfl ?_
        refine ks_aload_n (n := 119) S dX5_house_118 rfl rfl ?_
        refine ks_getr (n := 122) S dX5_house_119 rfl fl_X5_9 rfl rfl ?_
        refine kf_s2v (n := 125) S dX5_house_122 rfl ml_X5_137 ym_X5_copies (ev_X5_copies rfl rfl (by decide) (by rw [t42]; exact z39) (by rw [t39]; exact iz)) (by decide) (Nat.le_of_ble_eq_true rfl) ?_
        have GF := h62 (sr τ99 39 (τ99 42)) (m_sc w n 96 0) (-2000 - b) (by omega) ((iB.nn F91).c (Or.inl rfl)) (by rw [sr_r, t42]) (by rw [sr_n (by decide), t42]; exact z39) (by rw [hA, ← v3, if_neg (by omega)])
        refine ks_goto (n := 62) S dX5_house_125 rfl ?_
        refine ks_weak (L' := [some (kr 38), some (ki (m_sc w n 96 0)), some (ki _), none, none, none]) S ((And.intro rfl (And.intro rfl (And.intro rfl True.intro)))) ?_
        first | exact GF | exact GS
      · skip
        simp only [bi_eq, bi_ne, Classical.not_not] at h102
        rw [t39, n91.q h6] at h102
        rw [t39, n91.hw h6] at e99
        rw [if_pos ((n91.q h6).2 h102)] at e99
        rw [if_pos h102] at v3
        obtain ⟨o1, o2, o3⟩ := m_hwa_ok io i99 iz (by omega) hf h102
        have GS := ih ((τ99, m_hwa a' w n b), b + m_ln (m_at w n b)) (by omega) ⟨by omega, by show 3 * (i + 1) ≤ b + m_ln (m_at w n b); omega, by show b + m_ln (m_at w n b) ≤ n; omega, by rw [e99]; exact (iB.nn F91).c (Or.inl rfl), by show τ99 39 = m_hwa a' w n b; rw [e99, sr_r], by show τ99 42 = M 39; rw [e99, sr_n (by decide)]; exact t42, o1, o2, o3, by show τ99 38 10 = b + m_ln (m_at w n b); rw [e99, sr_n (by decide)]; exact p91, by
          show (b + m_ln (m_at w n b) < n ∧ m_sl w n (96 - (i + 1)).toNat (b + m_ln (m_at w n b)) = -9 ∧ m_cf w n (96 - (i + 1)).toNat (b + m_ln (m_at w n b)) (m_hwa a' w n b) = m_cf w n 96 0 (M 39) ∧ m_ca w n (96 - (i + 1)).toNat (b + m_ln (m_at w n b)) (m_hwa a' w n b) = m_ca w n 96 0 (M 39)) ∨ (b + m_ln (m_at w n b) = n ∧ m_cf w n 96 0 (M 39) = -9 ∧ m_hwa a' w n b = m_ca w n 96 0 (M 39))
          by_cases hx : b + m_ln (m_at w n b) < n
          · rw [if_pos hx] at v2 v3 v4
            exact Or.inl ⟨hx, v2, v3, v4⟩
          · rw [if_neg hx] at v3 v4
            exact Or.inr ⟨by omega, v3.symm, v4⟩⟩
        refine ks_goto (n := 62) S dX5_house_105 rfl ?_
        refine ks_weak (L' := [some (kr 38), some (ki (m_sc w n 96 0)), some (ki (-9)), none, none, none]) S ((And.intro rfl (And.intro rfl (And.intro rfl True.intro)))) ?_
        first | exact GF | exact GS
  refine kq_use (p := ∀ (s : KS) (many fault : Int), FrN σ s → ((fault = -9 ∧ m_sl w n 96 0 = -9 ∧ many = m_sc w n 96 0) ∨ (fault = -1000 - m_sl w n 96 0 ∧ m_sl w n 96 0 ≠ -9)) → K 46 [some (kr 38), some (ki many), some (ki fault), none, none, none] [] s) ?_ (fun h46 => ?_)
  · intro s many fault hF hv1
    have s39 : s 39 = M 39 := by rw [hF.1 39 (by decide) (by decide)]; exact e39
    have B : FrB σ (kq_up (sr s 42 (s 39)) 38 10 0) := ((FrB.ofN hF).c (Or.inr rfl)).nn FrN.rf.pl
    have b39 : kq_up (sr s 42 (s 39)) 38 10 0 39 = M 39 := by rw [show kq_up (sr s 42 (s 39)) 38 10 0 39 = sr s 42 (s 39) 39 from funext fun j => kq_up_c (by decide), sr_n (by decide)]; exact s39
    have b42 : kq_up (sr s 42 (s 39)) 38 10 0 42 = M 39 := by rw [show kq_up (sr s 42 (s 39)) 38 10 0 42 = sr s 42 (s 39) 42 from funext fun j => kq_up_c (by decide), sr_r]; exact s39
    refine ks_aload_n (n := 47) S dX5_house_46 rfl rfl ?_
    refine ks_getr (n := 50) S dX5_house_47 rfl fl_X5_9 rfl rfl ?_
    refine ks_aload_n (n := 51) S dX5_house_50 rfl rfl ?_
    refine ks_getr (n := 54) S dX5_house_51 rfl fl_X5_19 rfl rfl ?_
    refine kf_s2v (n := 57) S dX5_house_54 rfl ml_X5_137 ym_X5_copies (ev_X5_copies rfl rfl (by decide) (by rw [s39]; exact z39) (by rw [hF.1 42 (by decide) (by decide)]; exact z42)) (by decide) (Nat.le_of_ble_eq_true rfl) ?_
    refine ks_aload_n (n := 58) S dX5_house_57 rfl rfl ?_
    refine ks_iconst (n := 59) S dX5_house_58 rfl (by unfold iv; decide) ?_
    refine ks_putI (n := 62) (fi := 10) S dX5_house_59 rfl fw_X5_91 rfl rfl (Or.inl rfl) rfl ?_
    rcases hv1 with ⟨v1, v2, v3⟩ | ⟨v1, v2⟩
    · subst v1 v3
      have n0 : 0 < n := by
        by_cases hz : n = 0
        · have := m_sl_0 (w := w) hz; omega
        · omega
      exact lp2 v2 0 ((kq_up (sr s 42 (s 39)) 38 10 0, M 39), 0) (by omega) ⟨by omega, Int.le_refl _, by show (0 : Int) ≤ n; omega, B, b39, b42, ok, h99, z39, by show kq_up (sr s 42 (s 39)) 38 10 0 38 10 = 0; exact kq_up_s, Or.inl ⟨n0, v2, rfl, rfl⟩⟩
    · exact h62 _ many fault (by omega) B b39 (by rw [b42]; exact z39) (by rw [hA, if_neg v2, v1])
  refine kq_use (kq_for (α := KS × Int) 96 (fun i s => 0 ≤ i ∧ 3 * i ≤ s.2 ∧ s.2 ≤ n ∧ (s.2 < n ∨ i = 0) ∧ FrN σ s.1 ∧ s.1 38 10 = s.2 ∧ m_sl w n (96 - i).toNat s.2 = m_sl w n 96 0 ∧ i + m_sc w n (96 - i).toNat s.2 = m_sc w n 96 0) (fun i s => K 10 [some (kr 38), some (ki i), some (ki (-9)), none, none, none] [] s.1) ?_) (fun lp1 => ?_)
  · rintro i ⟨s, b⟩ hi inv ih
    obtain ⟨i0, i1, i2, i3, iF, ip, v2, v5⟩ := inv
    replace i1 : 3 * i ≤ b := i1
    replace i2 : b ≤ n := i2
    replace i3 : b < n ∨ i = 0 := i3
    replace iF : FrN σ s := iF
    replace ip : s 38 10 = b := ip
    replace v2 : m_sl w n (96 - i).toNat b = m_sl w n 96 0 := v2
    replace v5 : i + m_sc w n (96 - i).toNat b = m_sc w n 96 0 := v5
    show K 10 [some (kr 38), some (ki i), some (ki (-9)), none, none, none] [] s
    have hT2 := hT.fr iF
    have v2' := m_sl_s (w := w) (n := n) (i := i) (b := b) (by omega)
    have v5' := m_sc_s (w := w) (n := n) (i := i) (b := b) (by omega)
    refine ks_aload_n (n := 11) S dX5_house_10 rfl rfl ?_
    refine ks_v0z (n := 14) S dX5_house_11 rfl ml_X5_134 ym_X5_readsStatement (ev_X5_readsStatement hT2 ip (by omega)) (by decide) rfl (Nat.le_of_ble_eq_true rfl) (fun r11 τ11 q11 => ?_)
    obtain ⟨y11, F11, g11, p11⟩ := q11
    have y11 := kq_si y11
    subst y11
    have hT3 := hT2.fr F11
    have hn8 := hT3.1
    refine ks_if_ne (n := 17) (tgt := 26) S dX5_house_14 rfl rfl (fun h14 => ?_) (fun h14 => ?_)
    · skip
      simp only [bi_eq, bi_ne, Classical.not_not] at h14
      refine ks_iinc (n := 29) S dX5_house_26 rfl rfl (by omega) (L' := fun yy => [some (kr 38), some (ki yy), some (ki (-9)), none, none, none]) (fun _ => rfl) (fun k hv26 => ?_)
      refine ks_iload_n (n := 30) S dX5_house_29 rfl rfl ?_
      refine ks_bipush (n := 32) S dX5_house_30 rfl (by unfold iv; decide) ?_
      refine ks_icmp_ne (n := 35) (tgt := 46) S dX5_house_32 rfl rfl (fun h32 => ?_) (fun h32 => ?_)
      · skip
        first
        | (have hbad : m_fp w n b ≠ -9 := hfit
           first | (exfalso; omega) | exact h46 τ11 k _ (iF.tr F11) (Or.inr (by omega)))
        | (have hgood : m_fp w n b = -9 := h14
           have pg := (g11 hgood).1
           have he := m_fp_end (by omega) hgood
           first | (exfalso; omega) | (rw [if_pos hgood, if_neg (by omega)] at v2'; rw [if_neg (by omega)] at v5'; exact h46 τ11 k _ (iF.tr F11) (Or.inl ⟨rfl, by omega, by omega⟩)))
      · skip
        refine ks_aload_n (n := 36) S dX5_house_35 rfl rfl ?_
        refine ks_getI (n := 39) (fi := 10) S dX5_house_36 rfl fl_X5_91 rfl rfl rfl ?_
        refine ks_aload_n (n := 40) S dX5_house_39 rfl rfl ?_
        refine ks_getI (n := 43) (fi := 8) S dX5_house_40 rfl fl_X5_87 rfl rfl rfl ?_
        refine ks_icmp_lt (n := 46) (tgt := 10) S dX5_house_43 rfl rfl (fun h43 => ?_) (fun h43 => ?_)
        · skip
          first
          | (have hbad : m_fp w n b ≠ -9 := hfit
             exfalso; omega)
          | (have hgood : m_fp w n b = -9 := h14
             have pg := (g11 hgood).1
             have hl3 := (m_fp_fits (by omega) hgood).1
             rw [if_pos hgood, if_pos (by omega)] at v2'
             rw [if_pos (by omega)] at v5'
             have hk : k = i + 1 := hv26
             subst hk
             exact ih (τ11, b + m_ln (m_at w n b)) (by omega) ⟨by omega, by show 3 * (i + 1) ≤ b + m_ln (m_at w n b); omega, by show b + m_ln (m_at w n b) ≤ n; omega, Or.inl (by show b + m_ln (m_at w n b) < n; omega), iF.tr F11, pg, by show m_sl w n (96 - (i + 1)).toNat (b + m_ln (m_at w n b)) = m_sl w n 96 0; omega, by show i + 1 + m_sc w n (96 - (i + 1)).toNat (b + m_ln (m_at w n b)) = m_sc w n 96 0; omega⟩)
        · skip
          first
          | (have hbad : m_fp w n b ≠ -9 := hfit
             first | (exfalso; omega) | exact h46 τ11 k _ (iF.tr F11) (Or.inr (by omega)))
          | (have hgood : m_fp w n b = -9 := h14
             have pg := (g11 hgood).1
             have he := m_fp_end (by omega) hgood
             first | (exfalso; omega) | (rw [if_pos hgood, if_neg (by omega)] at v2'; rw [if_neg (by omega)] at v5'; exact h46 τ11 k _ (iF.tr F11) (Or.inl ⟨rfl, by omega, by omega⟩)))
    · skip
      simp only [bi_eq, bi_ne, Classical.not_not] at h14
      rw [if_neg h14] at v2'
      have pp := p11 h14
      have pb := m_fp_b (w := w) (n := n) (b := b)
      have hfit : m_fp w n b ≠ -9 := h14
      refine ks_sipush (n := 20) S dX5_house_17 rfl (by unfold iv; decide) ?_
      refine ks_aload_n (n := 21) S dX5_house_20 rfl rfl ?_
      refine ks_getI (n := 24) (fi := 10) S dX5_house_21 rfl fl_X5_91 rfl rfl rfl ?_
      refine ks_isub (n := 25) S dX5_house_24 rfl (by omega) ?_
      refine ks_istore_n (n := 26) S dX5_house_25 rfl rfl (L' := fun yy => [some (kr 38), some (ki i), some (ki yy), none, none, none]) (Nat.le_of_ble_eq_true rfl) (fun _ => rfl) (fun v2_25 hv25 => ?_)
      subst v2_25
      refine ks_iinc (n := 29) S dX5_house_26 rfl rfl (by omega) (L' := fun yy => [some (kr 38), some (ki yy), some (ki _), none, none, none]) (fun _ => rfl) (fun k hv26 => ?_)
      refine ks_iload_n (n := 30) S dX5_house_29 rfl rfl ?_
      refine ks_bipush (n := 32) S dX5_house_30 rfl (by unfold iv; decide) ?_
      refine ks_icmp_ne (n := 35) (tgt := 46) S dX5_house_32 rfl rfl (fun h32 => ?_) (fun h32 => ?_)
      · skip
        first
        | (have hbad : m_fp w n b ≠ -9 := hfit
           first | (exfalso; omega) | exact h46 τ11 k _ (iF.tr F11) (Or.inr (by omega)))
        | (have hgood : m_fp w n b = -9 := h14
           have pg := (g11 hgood).1
           have he := m_fp_end (by omega) hgood
           first | (exfalso; omega) | (rw [if_pos hgood, if_neg (by omega)] at v2'; rw [if_neg (by omega)] at v5'; exact h46 τ11 k _ (iF.tr F11) (Or.inl ⟨rfl, by omega, by omega⟩)))
      · skip
        refine ks_aload_n (n := 36) S dX5_house_35 rfl rfl ?_
        refine ks_getI (n := 39) (fi := 10) S dX5_house_36 rfl fl_X5_91 rfl rfl rfl ?_
        refine ks_aload_n (n := 40) S dX5_house_39 rfl rfl ?_
        refine ks_getI (n := 43) (fi := 8) S dX5_house_40 rfl fl_X5_87 rfl rfl rfl ?_
        refine ks_icmp_lt (n := 46) (tgt := 10) S dX5_house_43 rfl rfl (fun h43 => ?_) (fun h43 => ?_)
        · skip
          first
          | (have hbad : m_fp w n b ≠ -9 := hfit
             exfalso; omega)
          | (have hgood : m_fp w n b = -9 := h14
             have pg := (g11 hgood).1
             have hl3 := (m_fp_fits (by omega) hgood).1
             rw [if_pos hgood, if_pos (by omega)] at v2'
             rw [if_pos (by omega)] at v5'
             have hk : k = i + 1 := hv26
             subst hk
             exact ih (τ11, b + m_ln (m_at w n b)) (by omega) ⟨by omega, by show 3 * (i + 1) ≤ b + m_ln (m_at w n b); omega, by show b + m_ln (m_at w n b) ≤ n; omega, Or.inl (by show b + m_ln (m_at w n b) < n; omega), iF.tr F11, pg, by show m_sl w n (96 - (i + 1)).toNat (b + m_ln (m_at w n b)) = m_sl w n 96 0; omega, by show i + 1 + m_sc w n (96 - (i + 1)).toNat (b + m_ln (m_at w n b)) = m_sc w n 96 0; omega⟩)
        · skip
          first
          | (have hbad : m_fp w n b ≠ -9 := hfit
             first | (exfalso; omega) | exact h46 τ11 k _ (iF.tr F11) (Or.inr (by omega)))
          | (have hgood : m_fp w n b = -9 := h14
             have pg := (g11 hgood).1
             have he := m_fp_end (by omega) hgood
             first | (exfalso; omega) | (rw [if_pos hgood, if_neg (by omega)] at v2'; rw [if_neg (by omega)] at v5'; exact h46 τ11 k _ (iF.tr F11) (Or.inl ⟨rfl, by omega, by omega⟩)))
  refine ks_aload_n (n := 1) S dX5_house_0 rfl rfl ?_
  refine ks_iconst (n := 2) S dX5_house_1 rfl (by unfold iv; decide) ?_
  refine ks_putI (n := 5) (fi := 10) S dX5_house_2 rfl fw_X5_91 rfl rfl (Or.inl rfl) rfl ?_
  refine ks_iconst (n := 6) S dX5_house_5 rfl (by unfold iv; decide) ?_
  refine ks_istore_n (n := 7) S dX5_house_6 rfl rfl (L' := fun yy => [some (kr 38), some (ki yy), none, none, none, none]) (Nat.le_of_ble_eq_true rfl) (fun _ => rfl) (fun v1_6 hv6 => ?_)
  obtain rfl : v1_6 = 0 := by omega
  refine ks_bipush (n := 9) S dX5_house_7 rfl (by unfold iv; decide) ?_
  refine ks_istore_n (n := 10) S dX5_house_9 rfl rfl (L' := fun yy => [some (kr 38), some (ki (0)), some (ki yy), none, none, none]) (Nat.le_of_ble_eq_true rfl) (fun _ => rfl) (fun v2_9 hv9 => ?_)
  obtain rfl : v2_9 = -9 := by omega
  exact lp1 0 (kq_up σ 38 10 0, 0) (by omega) ⟨by omega, Int.le_refl _, by show (0 : Int) ≤ n; omega, Or.inr rfl, FrN.rf.pl, by show kq_up σ 38 10 0 38 10 = 0; exact kq_up_s, rfl, Int.zero_add _⟩
end READ4

