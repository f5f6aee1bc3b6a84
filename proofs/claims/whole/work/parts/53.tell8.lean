section TELL8
variable {l : Launch} {σ M : KS} {w a : RW} {n : Int} {c : Nat}
theorem m_sl_b : ∀ (k : Nat) (b : Int), 0 ≤ b → m_sl w n k b = -9 ∨ 0 ≤ m_sl w n k b := by
  intro k
  induction k with
  | zero => intro b _; exact Or.inl rfl
  | succ k ih =>
    intro b hb
    unfold m_sl
    split
    · split
      · exact ih _ (by have := m_ln_b (v := m_at w n b); omega)
      · exact Or.inl rfl
    · rename_i hf
      refine Or.inr ?_
      unfold m_fp at hf ⊢
      split
      · exact hb
      · rename_i hl
        rw [if_neg hl] at hf
        by_cases hx : ∃ d, b + 1 ≤ d ∧ d < b + 1 + ((m_ln (m_at w n b) - 1).toNat : Int) ∧ (fun j => decide (¬ m_ft w n j b (m_ln (m_at w n b)))) d = true
        · have := m_fi_some _ _ hx
          omega
        · exact absurd (m_fi_none _ _ (fun j y1 y2 y3 => hx ⟨j, y1, y2, y3⟩)) hf
theorem m_cf_b : ∀ (k : Nat) (b : Int) (a : RW), 0 ≤ b → m_cf w n k b a = -9 ∨ 0 ≤ m_cf w n k b a := by
  intro k
  induction k with
  | zero => intro b a _; exact Or.inl rfl
  | succ k ih =>
    intro b a hb
    unfold m_cf
    split
    · split
      · exact ih _ _ (by have := m_ln_b (v := m_at w n b); omega)
      · exact Or.inl rfl
    · exact Or.inr hb
theorem m_sc_b : ∀ (k : Nat) (b : Int), 0 ≤ m_sc w n k b := by
  intro k
  induction k with
  | zero => intro b; exact Int.le_refl _
  | succ k ih =>
    intro b
    unfold m_sc
    split
    · have := ih (b + m_ln (m_at w n b)); omega
    · omega
theorem m_ca_ok : ∀ (k : Nat) (b : Int) (a : RW), 0 ≤ b → (k = 0 ∨ m_sl w n k b = -9) → m_cf w n k b a = -9 → OkR a → a 2 ≤ 999 → Zr a → OkR (m_ca w n k b a) ∧ m_ca w n k b a 2 ≤ 999 ∧ Zr (m_ca w n k b a) := by
  intro k
  induction k with
  | zero => intro b a _ _ _ h1 h2 h3; exact ⟨h1, h2, h3⟩
  | succ k ih =>
    intro b a hb hs hc h1 h2 h3
    have hs : m_sl w n (k + 1) b = -9 := by omega
    have hl := m_ln_b (v := m_at w n b)
    unfold m_sl at hs
    unfold m_cf at hc
    unfold m_ca
    have hf : m_fp w n b = -9 := by
      split at hs
      · assumption
      · exact hs
    rw [if_pos hf] at hs
    split at hc
    · rename_i hq
      obtain ⟨y1, y2, y3⟩ := m_hwa_ok h1 h2 h3 hb hf hq
      by_cases hx : b + m_ln (m_at w n b) < n
      · rw [if_pos hx] at hs hc ⊢
        exact ih _ _ (by omega) (Or.inr hs) hc y1 y2 y3
      · rw [if_neg hx]
        exact ⟨y1, y2, y3⟩
    · omega
theorem m_LT.fr {τ : KS} (h : m_LT σ w n) (hc : c ≤ 21) (hf : FrH c σ τ) : m_LT τ w n := by
  obtain ⟨h1, h2, h3⟩ := h
  exact ⟨by rw [hf 31 1 (by omega)]; exact h1, h2, fun j j0 j1 => by rw [hf 32 j (by omega)]; exact h3 j j0 j1⟩
theorem ev_X2_carryOut (h : m_LT σ w n) (hH : kq_H c) (hc : c ≤ 21) (hR : RepH σ c a) (ok : OkR a) (h2 : a 2 ≤ 999) (hz : Zr a) (hs : m_sl w n 96 0 = -9) : Ev l yX2_carryOut cX2_carryOut 5 (some .int) 5 110 [kr 31, kr c] σ (fun r τ => r = some (ki (if m_cf w n 96 0 a = -9 then m_sc w n 96 0 else -2000 - m_cf w n 96 0 a)) ∧ (m_cf w n 96 0 a = -9 → RepH τ c (m_ca w n 96 0 a)) ∧ FrH c σ τ) := by
  have e2 := h.2.1
  have n0 : 0 < n := by
    by_cases hn : n = 0
    · have := m_sl_0 (w := w) hn; omega
    · omega
  refine ev_intro ym_X2_carryOut.1 (Nat.le_of_ble_eq_true rfl) (fun hv hσ K S => ?_)
  have hv := hv
  show K 0 [some (kr 31), some (kr c), none, none, none] [] σ
  refine kq_use (kq_for (α := (KS × RW) × (Int × Int)) 96 (fun i s => 0 ≤ i ∧ 3 * i ≤ s.2.1 ∧ s.2.1 ≤ n ∧ s.2.2 = i ∧ RepH s.1.1 c s.1.2 ∧ OkR s.1.2 ∧ s.1.2 2 ≤ 999 ∧ Zr s.1.2 ∧ FrH c σ s.1.1 ∧ ((s.2.1 < n ∧ m_sl w n (96 - i).toNat s.2.1 = -9 ∧ m_cf w n (96 - i).toNat s.2.1 s.1.2 = m_cf w n 96 0 a ∧ m_ca w n (96 - i).toNat s.2.1 s.1.2 = m_ca w n 96 0 a ∧ i + m_sc w n (96 - i).toNat s.2.1 = m_sc w n 96 0) ∨ (s.2.1 = n ∧ m_cf w n 96 0 a = -9 ∧ s.1.2 = m_ca w n 96 0 a ∧ i = m_sc w n 96 0))) (fun i s => K 7 [some (kr 31), some (kr c), some (ki s.2.1), some (ki s.2.2), some (ki i)] [] s.1.1) ?_) (fun lp => ?_)
  · rintro i ⟨⟨ρ, a'⟩, b, many⟩ hi inv ih
    obtain ⟨i0, i1, i2, i3, iR, io, i99, iz, iF, vv⟩ := inv
    replace i1 : 3 * i ≤ b := i1
    replace i2 : b ≤ n := i2
    replace i3 : many = i := i3
    replace iR : RepH ρ c a' := iR
    replace io : OkR a' := io
    replace i99 : a' 2 ≤ 999 := i99
    replace iz : Zr a' := iz
    replace iF : FrH c σ ρ := iF
    replace vv : (b < n ∧ m_sl w n (96 - i).toNat b = -9 ∧ m_cf w n (96 - i).toNat b a' = m_cf w n 96 0 a ∧ m_ca w n (96 - i).toNat b a' = m_ca w n 96 0 a ∧ i + m_sc w n (96 - i).toNat b = m_sc w n 96 0) ∨ (b = n ∧ m_cf w n 96 0 a = -9 ∧ a' = m_ca w n 96 0 a ∧ i = m_sc w n 96 0) := vv
    show K 7 [some (kr 31), some (kr c), some (ki b), some (ki many), some (ki i)] [] ρ
    have hL := h.fr hc iF
    have e1 := hL.1
    have hl := m_ln_b (v := m_at w n b)
    refine ks_iload (n := 9) S dX2_carryOut_7 rfl rfl ?_
    refine ks_bipush (n := 11) S dX2_carryOut_9 rfl (by unfold iv; decide) ?_
    refine ks_icmp_ge (n := 14) (tgt := 57) S dX2_carryOut_11 rfl rfl (fun h11 => ?_) (fun h11 => ?_)
    · skip
      refine ks_iload_n (n := 58) S dX2_carryOut_57 rfl rfl ?_
      refine ks_iret S dX2_carryOut_58 ?_
      rcases vv with v | v
      · omega
      · refine ⟨?_, fun _ => ?_, iF⟩
        · rw [if_pos v.2.1, i3, v.2.2.2]
        · rw [← v.2.2.1]; exact iR
    · skip
      refine ks_iload_n (n := 15) S dX2_carryOut_14 rfl rfl ?_
      refine ks_aload_n (n := 16) S dX2_carryOut_15 rfl rfl ?_
      refine ks_getI (n := 19) (fi := 1) S dX2_carryOut_16 rfl fl_X2_15 rfl rfl rfl ?_
      refine ks_icmp_ge (n := 22) (tgt := 57) S dX2_carryOut_19 rfl rfl (fun h19 => ?_) (fun h19 => ?_)
      · skip
        refine ks_iload_n (n := 58) S dX2_carryOut_57 rfl rfl ?_
        refine ks_iret S dX2_carryOut_58 ?_
        rcases vv with v | v
        · omega
        · refine ⟨?_, fun _ => ?_, iF⟩
          · rw [if_pos v.2.1, i3, v.2.2.2]
          · rw [← v.2.2.1]; exact iR
      · skip
        refine ks_aload_n (n := 23) S dX2_carryOut_22 rfl rfl ?_
        refine ks_aload_n (n := 24) S dX2_carryOut_23 rfl rfl ?_
        refine ks_iload_n (n := 25) S dX2_carryOut_24 rfl rfl ?_
        refine ks_v2z (n := 28) S dX2_carryOut_25 rfl ml_X2_42 ym_X2_happens (ev_X2_happens hL hH iR io i99 (by omega)) (by decide) rfl (Nat.le_of_ble_eq_true rfl) (fun r25 τ25 q25 => ?_)
        obtain ⟨y1, y2, y3⟩ := q25
        have y1 := kq_si y1
        subst y1
        have hL2 := hL.fr hc y3
        have vv' : b < n ∧ m_sl w n (96 - i).toNat b = -9 ∧ m_cf w n (96 - i).toNat b a' = m_cf w n 96 0 a ∧ m_ca w n (96 - i).toNat b a' = m_ca w n 96 0 a ∧ i + m_sc w n (96 - i).toNat b = m_sc w n 96 0 := by
          rcases vv with h | h
          · exact h
          · omega
        obtain ⟨v1, v2, v3, v4, v5⟩ := vv'
        rw [m_sl_s (by omega)] at v2
        rw [m_cf_s (by omega)] at v3
        rw [m_ca_s (by omega)] at v4
        rw [m_sc_s (by omega)] at v5
        have hf : m_fp w n b = -9 := by
          split at v2
          · assumption
          · exact v2
        rw [if_pos hf] at v2
        have he := m_fp_end (by omega) hf
        have hl3 := (m_fp_fits (by omega) hf).1
        refine ks_if_ne (n := 31) (tgt := 37) S dX2_carryOut_28 rfl rfl (fun h28 => ?_) (fun h28 => ?_)
        · skip
          simp only [bi_eq, bi_ne, Classical.not_not] at h28
          refine ks_iinc (n := 40) S dX2_carryOut_37 rfl rfl (by omega) (L' := fun yy => [some (kr 31), some (kr c), some (ki b), some (ki yy), some (ki i)]) (fun _ => rfl) (fun v3_37 hv37 => ?_)
          subst v3_37
          refine ks_iload_n (n := 41) S dX2_carryOut_40 rfl rfl ?_
          refine ks_aload_n (n := 42) S dX2_carryOut_41 rfl rfl ?_
          refine ks_iload_n (n := 43) S dX2_carryOut_42 rfl rfl ?_
          refine kf_v1i (n := 46) S dX2_carryOut_43 rfl ml_X2_19 ym_X2_at (ev_X2_at hL2) (by decide) rfl (Nat.le_of_ble_eq_true rfl) ?_
          refine kf_s1i (n := 49) S dX2_carryOut_46 rfl ml_X2_30 ym_X2_lengthOf (ev_X2_lengthOf) (by decide) (Nat.le_of_ble_eq_true rfl) ?_
          refine ks_iadd (n := 50) S dX2_carryOut_49 rfl (by omega) ?_
          refine ks_istore_n (n := 51) S dX2_carryOut_50 rfl rfl (L' := fun yy => [some (kr 31), some (kr c), some (ki yy), some (ki _), some (ki i)]) (Nat.le_of_ble_eq_true rfl) (fun _ => rfl) (fun v2_50 hv50 => ?_)
          subst v2_50
          refine ks_iinc (n := 54) S dX2_carryOut_51 rfl rfl (by omega) (L' := fun yy => [some (kr 31), some (kr c), some (ki _), some (ki _), some (ki yy)]) (fun _ => rfl) (fun v4_51 hv51 => ?_)
          subst v4_51
          refine ks_goto (n := 7) S dX2_carryOut_54 rfl ?_
          rw [if_pos h28] at v3 y2
          obtain ⟨o1, o2, o3⟩ := m_hwa_ok io i99 iz (by omega) hf h28
          refine ih ((_, m_hwa a' w n b), (_, _)) (by omega) ⟨by omega, ?_, ?_, ?_, y2, o1, o2, o3, iF.tr y3, ?_⟩
          · show 3 * (i + 1) ≤ b + m_ln (m_at w n b); omega
          · show b + m_ln (m_at w n b) ≤ n; omega
          · show many + 1 = i + 1; omega
          · show (b + m_ln (m_at w n b) < n ∧ m_sl w n (96 - (i + 1)).toNat (b + m_ln (m_at w n b)) = -9 ∧ m_cf w n (96 - (i + 1)).toNat (b + m_ln (m_at w n b)) (m_hwa a' w n b) = m_cf w n 96 0 a ∧ m_ca w n (96 - (i + 1)).toNat (b + m_ln (m_at w n b)) (m_hwa a' w n b) = m_ca w n 96 0 a ∧ i + 1 + m_sc w n (96 - (i + 1)).toNat (b + m_ln (m_at w n b)) = m_sc w n 96 0) ∨ (b + m_ln (m_at w n b) = n ∧ m_cf w n 96 0 a = -9 ∧ m_hwa a' w n b = m_ca w n 96 0 a ∧ i + 1 = m_sc w n 96 0)
            by_cases hx : b + m_ln (m_at w n b) < n
            · rw [if_pos hx] at v2 v3 v4 v5
              exact Or.inl ⟨hx, v2, v3, v4, by omega⟩
            · rw [if_neg hx] at v3 v4 v5
              exact Or.inr ⟨by omega, v3.symm, v4, by omega⟩
        · skip
          simp only [bi_eq, bi_ne, Classical.not_not] at h28
          refine ks_sipush (n := 34) S dX2_carryOut_31 rfl (by unfold iv; decide) ?_
          refine ks_iload_n (n := 35) S dX2_carryOut_34 rfl rfl ?_
          refine ks_isub (n := 36) S dX2_carryOut_35 rfl (by omega) ?_
          refine ks_iret S dX2_carryOut_36 ?_
          rw [if_neg h28] at v3
          refine ⟨?_, fun hx => ?_, iF.tr y3⟩
          · rw [← v3, if_neg (by omega)]
          · omega
  refine ks_iconst (n := 1) S dX2_carryOut_0 rfl (by unfold iv; decide) ?_
  refine ks_istore_n (n := 2) S dX2_carryOut_1 rfl rfl (L' := fun yy => [some (kr 31), some (kr c), some (ki yy), none, none]) (Nat.le_of_ble_eq_true rfl) (fun _ => rfl) (fun v2_1 hv1 => ?_)
  obtain rfl : v2_1 = 0 := by omega
  refine ks_iconst (n := 3) S dX2_carryOut_2 rfl (by unfold iv; decide) ?_
  refine ks_istore_n (n := 4) S dX2_carryOut_3 rfl rfl (L' := fun yy => [some (kr 31), some (kr c), some (ki (0)), some (ki yy), none]) (Nat.le_of_ble_eq_true rfl) (fun _ => rfl) (fun v3_3 hv3 => ?_)
  obtain rfl : v3_3 = 0 := by omega
  refine ks_iconst (n := 5) S dX2_carryOut_4 rfl (by unfold iv; decide) ?_
  refine ks_istore (n := 7) S dX2_carryOut_5 rfl (L' := fun yy => [some (kr 31), some (kr c), some (ki (0)), some (ki (0)), some (ki yy)]) (Nat.le_of_ble_eq_true rfl) (fun _ => rfl) (fun v4_5 hv5 => ?_)
  obtain rfl : v4_5 = 0 := by omega
  exact lp 0 ((σ, a), (0, 0)) (by omega) ⟨by omega, Int.le_refl _, by show (0 : Int) ≤ n; omega, rfl, hR, ok, h2, hz, FrH.rf, Or.inl ⟨n0, hs, rfl, rfl, Int.zero_add _⟩⟩
def A_house (M : KS) : Int × KS := if m_sl (M 43) (M 38 8) 96 0 = -9 then (if m_cf (M 43) (M 38 8) 96 0 (M 39) = -9 then (m_sc (M 43) (M 38 8) 96 0, kq_up (mH M (m_ca (M 43) (M 38 8) 96 0 (M 39))) 38 8 0) else (-2000 - m_cf (M 43) (M 38 8) 96 0 (M 39), kq_up M 38 8 0)) else (-1000 - m_sl (M 43) (M 38 8) 96 0, kq_up M 38 8 0)
theorem RC.noLet (h : RC σ M) : RC (kq_up σ 31 1 0) (kq_up M 38 8 0) := by
  obtain ⟨h1, h2, h3, h4, h5, h6, h7, h8⟩ := h
  have z : ∀ c, c ≠ 31 → kq_up σ 31 1 0 c = σ c := fun c hc => funext fun j => kq_up_c hc
  have y : ∀ c, c ≠ 38 → kq_up M 38 8 0 c = M c := fun c hc => funext fun j => kq_up_c hc
  refine ⟨?_, ?_, ?_, ?_, ?_, ?_, ?_, ?_⟩
  · rw [y 39 (by decide)]; exact h1.cells (fun d _ _ => z d (by omega))
  · rw [y 41 (by decide), kq_up_i (by decide)]; exact fun hi => (h2 hi).cells (fun d _ _ => z d (by omega))
  · rw [z 0 (by decide), kq_up_i (by decide)]; exact h3
  · rw [kq_up_s, kq_up_s]
  · intro j j0 j1
    rw [kq_up_s] at j1
    omega
  · rw [z 0 (by decide), kq_up_i (by decide)]; exact h6
  · rw [z 36 (by decide), y 44 (by decide), kq_up_i (by decide)]; exact h7
  · rw [z 37 (by decide), y 45 (by decide)]; exact h8
theorem pc_house (hM : OkM M) (hC : RC σ M) : Ev l yX4_house cX4_house 2 (some .int) 6 134 [kr 0] σ (QC (A_house M) σ) := by
  have R := hC.1
  have ok := hM.1
  have h99 := hM.2.1
  have z39 := hM.2.2.1
  have hL : m_LT σ (M 43) (M 38 8) := ⟨hC.2.2.2.1, hM.2.2.2.2.2.1, hC.2.2.2.2.1⟩
  have b1 := m_sl_b (w := M 43) (n := M 38 8) 96 0 (by omega)
  have b2 := m_cf_b (w := M 43) (n := M 38 8) 96 0 (M 39) (by omega)
  have b3 := m_sc_b (w := M 43) (n := M 38 8) 96 0
  refine ev_intro ym_X4_house.1 (Nat.le_of_ble_eq_true rfl) (fun hv hσ K S => ?_)
  have hv := hv
  show K 0 [some (kr 0), none] [] σ
  refine kq_use (p := ∀ (τ N : KS) (x : Int), RC τ N → (∀ c, 38 ≤ c → τ c = σ c) → A_house M = (x, kq_up N 38 8 0) → K 50 [some (kr 0), some (ki x)] [] τ) ?_ (fun h50 => ?_)
  · intro τ N x hN hF hA
    refine ks_aload_n (n := 51) S dX4_house_50 rfl rfl ?_
    refine ks_getr (n := 54) S dX4_house_51 rfl fl_X4_29 rfl rfl ?_
    refine ks_iconst (n := 55) S dX4_house_54 rfl (by unfold iv; decide) ?_
    refine ks_putI (n := 58) (fi := 1) S dX4_house_55 rfl fw_X4_55 rfl rfl (Or.inl rfl) rfl ?_
    refine ks_iload_n (n := 59) S dX4_house_58 rfl rfl ?_
    refine ks_iret S dX4_house_59 ?_
    exact qc_mk hN.noLet (fun c hc => by rw [show kq_up τ 31 1 0 c = τ c from funext fun j => kq_up_c (by omega)]; exact hF c hc) hA
  refine ks_aload_n (n := 1) S dX4_house_0 rfl rfl ?_
  refine ks_getr (n := 4) S dX4_house_1 rfl fl_X4_29 rfl rfl ?_
  refine kf_v0i (n := 7) S dX4_house_4 rfl ml_X4_62 ym_X2_misspelling (ev_X2_misspelling hL) (by decide) rfl (Nat.le_of_ble_eq_true rfl) ?_
  refine ks_istore_n (n := 8) S dX4_house_7 rfl rfl (L' := fun yy => [some (kr 0), some (ki yy)]) (Nat.le_of_ble_eq_true rfl) (fun _ => rfl) (fun r1 hv7 => ?_)
  refine ks_iload_n (n := 9) S dX4_house_8 rfl rfl ?_
  refine ks_if_lt (n := 12) (tgt := 50) S dX4_house_9 rfl rfl (fun h9 => ?_) (fun h9 => ?_)
  · skip
    first
    | exact h50 τ47 (mH M _) r2 ((hC.fr (FrT.ofH (F2.tr F3))).house F4 R4) (fun c hc => funext fun j => by rw [F4 c j (by omega), F3 c j (by omega), F2 c j (by omega)]) (by unfold A_house; rw [if_pos hs, if_pos hc, hv34, y1, if_pos hc])
    | exact h50 τ31 M r2 (hC.fr (FrT.ofH (F2.tr F3))) (fun c hc => funext fun j => by rw [F3 c j (by omega), F2 c j (by omega)]) (by
        by_cases hc : m_cf (M 43) (M 38 8) 96 0 (M 39) = -9
        · rw [if_pos hc] at y1; omega
        · unfold A_house; rw [if_pos hs, if_neg hc, hv34, y1, if_neg hc])
    | exact h50 σ M r1 hC (fun _ _ => rfl) (by
        by_cases hs : m_sl (M 43) (M 38 8) 96 0 = -9
        · rw [if_pos hs] at hv7; omega
        · unfold A_house; rw [if_neg hs, hv7, if_neg hs])
  · skip
    have hs : m_sl (M 43) (M 38 8) 96 0 = -9 := by
      by_cases hs : m_sl (M 43) (M 38 8) 96 0 = -9
      · exact hs
      · rw [if_neg hs] at hv7; omega
    refine ks_aload_n (n := 13) S dX4_house_12 rfl rfl ?_
    refine ks_getr (n := 16) S dX4_house_13 rfl fl_X4_16 rfl rfl ?_
    refine ks_aload_n (n := 17) S dX4_house_16 rfl rfl ?_
    refine ks_getr (n := 20) S dX4_house_17 rfl fl_X4_10 rfl rfl ?_
    refine ks_v1v (n := 23) S dX4_house_20 rfl ml_X4_66 ym_X0_copyFrom (ev_X0_copyFrom kq_H11 kq_H1 (by decide) R ok) (by decide) kq_H11.o (Nat.le_of_ble_eq_true rfl) (fun τ20 q20 => ?_)
    obtain ⟨-, R2, F2⟩ := q20
    refine ks_aload_n (n := 24) S dX4_house_23 rfl rfl ?_
    refine ks_getr (n := 27) S dX4_house_24 rfl fl_X4_29 rfl rfl ?_
    refine ks_aload_n (n := 28) S dX4_house_27 rfl rfl ?_
    refine ks_getr (n := 31) S dX4_house_28 rfl fl_X4_16 rfl rfl ?_
    refine ks_v1i (n := 34) S dX4_house_31 rfl ml_X4_70 ym_X2_carryOut (ev_X2_carryOut (hL.fr (by decide) F2) kq_H11 (by decide) R2 ok h99 z39 hs) (by decide) rfl (Nat.le_of_ble_eq_true rfl) (fun r31 τ31 q31 => ?_)
    obtain ⟨y1, R3, F3⟩ := q31
    have y1 := kq_si y1
    refine ks_istore_n (n := 35) S dX4_house_34 rfl rfl (L' := fun yy => [some (kr 0), some (ki yy)]) (Nat.le_of_ble_eq_true rfl) (fun _ => rfl) (fun r2 hv34 => ?_)
    refine ks_iload_n (n := 36) S dX4_house_35 rfl rfl ?_
    refine ks_if_lt (n := 39) (tgt := 50) S dX4_house_36 rfl rfl (fun h36 => ?_) (fun h36 => ?_)
    · skip
      first
      | exact h50 τ47 (mH M _) r2 ((hC.fr (FrT.ofH (F2.tr F3))).house F4 R4) (fun c hc => funext fun j => by rw [F4 c j (by omega), F3 c j (by omega), F2 c j (by omega)]) (by unfold A_house; rw [if_pos hs, if_pos hc, hv34, y1, if_pos hc])
      | exact h50 τ31 M r2 (hC.fr (FrT.ofH (F2.tr F3))) (fun c hc => funext fun j => by rw [F3 c j (by omega), F2 c j (by omega)]) (by
          by_cases hc : m_cf (M 43) (M 38 8) 96 0 (M 39) = -9
          · rw [if_pos hc] at y1; omega
          · unfold A_house; rw [if_pos hs, if_neg hc, hv34, y1, if_neg hc])
      | exact h50 σ M r1 hC (fun _ _ => rfl) (by
          by_cases hs : m_sl (M 43) (M 38 8) 96 0 = -9
          · rw [if_pos hs] at hv7; omega
          · unfold A_house; rw [if_neg hs, hv7, if_neg hs])
    · skip
      have hc : m_cf (M 43) (M 38 8) 96 0 (M 39) = -9 := by
        by_cases hc : m_cf (M 43) (M 38 8) 96 0 (M 39) = -9
        · exact hc
        · rw [if_neg hc] at y1; omega
      obtain ⟨o1, o2, o3⟩ := m_ca_ok 96 0 (M 39) (by omega) (Or.inr hs) hc ok h99 z39
      refine ks_aload_n (n := 40) S dX4_house_39 rfl rfl ?_
      refine ks_getr (n := 43) S dX4_house_40 rfl fl_X4_10 rfl rfl ?_
      refine ks_aload_n (n := 44) S dX4_house_43 rfl rfl ?_
      refine ks_getr (n := 47) S dX4_house_44 rfl fl_X4_16 rfl rfl ?_
      refine ks_v1v (n := 50) S dX4_house_47 rfl ml_X4_66 ym_X0_copyFrom (ev_X0_copyFrom kq_H1 kq_H11 (by decide) (R3 hc) o1) (by decide) kq_H1.o (Nat.le_of_ble_eq_true rfl) (fun τ47 q47 => ?_)
      obtain ⟨-, R4, F4⟩ := q47
      first
      | exact h50 τ47 (mH M _) r2 ((hC.fr (FrT.ofH (F2.tr F3))).house F4 R4) (fun c hc => funext fun j => by rw [F4 c j (by omega), F3 c j (by omega), F2 c j (by omega)]) (by unfold A_house; rw [if_pos hs, if_pos hc, hv34, y1, if_pos hc])
      | exact h50 τ31 M r2 (hC.fr (FrT.ofH (F2.tr F3))) (fun c hc => funext fun j => by rw [F3 c j (by omega), F2 c j (by omega)]) (by
          by_cases hc : m_cf (M 43) (M 38 8) 96 0 (M 39) = -9
          · rw [if_pos hc] at y1; omega
          · unfold A_house; rw [if_pos hs, if_neg hc, hv34, y1, if_neg hc])
      | exact h50 σ M r1 hC (fun _ _ => rfl) (by
          by_cases hs : m_sl (M 43) (M 38 8) 96 0 = -9
          · rw [if_pos hs] at hv7; omega
          · unfold A_house; rw [if_neg hs, hv7, if_neg hs])
theorem ok_house (h : OkM M) : OkM (A_house M).2 := by
  have nl : ∀ N : KS, OkM N → OkM (kq_up N 38 8 0) := fun N hN => by
    obtain ⟨h1, h2, h3, h4, h5, h6, h7, h8, h9⟩ := hN
    have y : ∀ c, c ≠ 38 → kq_up N 38 8 0 c = N c := fun c hc => funext fun j => kq_up_c hc
    unfold OkM
    rw [y 39 (by decide), y 41 (by decide), y 43 (by decide), y 44 (by decide), kq_up_s, kq_up_i (show (4 : Int) ≠ 8 by decide), kq_up_i (show (9 : Int) ≠ 8 by decide)]
    exact ⟨h1, h2, h3, h4, h5, by omega, fun j j0 j1 => by omega, h8, h9⟩
  unfold A_house
  split
  · rename_i hs
    split
    · rename_i hc
      obtain ⟨o1, o2, o3⟩ := m_ca_ok 96 0 (M 39) (by omega) (Or.inr hs) hc h.1 h.2.1 h.2.2.1
      exact nl _ (h.house o1 o2 o3)
    · exact nl _ h
  · exact nl _ h
end TELL8

