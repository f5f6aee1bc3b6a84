section PUB5
variable {l : Launch} {σ M : KS}
def m_w1 (s : RW) (a d x : Int) : Int := aP (if x = 1 then m_open s a d else s) a 2 - 4 * x
def m_w2 (s : RW) (a b d x y : Int) : Int := aP (m_xy s a x b y d) b 2 - 4 * y
abbrev m_P (s : RW) (a b d x y : Int) : Prop := m_w1 s a d x ≤ m_w1 s a d (1 - x) ∧ m_w2 s a b d x y ≤ m_w2 s a b d x (1 - y)
def A_two (M : KS) (a b d : Int) : Int × KS := if m_nt (M 39) a b d ≠ 0 then (m_nt (M 39) a b d, rfM M (m_nt (M 39) a b d)) else (if m_P (M 39) a b d 0 0 then 0 else if m_P (M 39) a b d 0 1 then 1 else if m_P (M 39) a b d 1 0 then 10 else if m_P (M 39) a b d 1 1 then 11 else -9, M)
theorem RepH.cast {c : Nat} {a b : RW} (e : b = a) (h : RepH σ c a) : RepH σ c b := e ▸ h
theorem ev_X4_wishOfFirst {a b d x : Int} (hM : OkM M) (hC : RC σ M) (h : m_tw (M 39) a b d) (hx : x = 0 ∨ x = 1) : Ev l yX4_wishOfFirst cX4_wishOfFirst 4 (some .int) 3 66 [kr 0, ki a, ki d, ki x] σ (fun r τ => r = some (ki (m_w1 (M 39) a d x)) ∧ FrT σ τ) := by
  have R := hC.1
  have ok := hM.1
  have n9 := ok.1
  have n6 := ok.2.1
  have ha := h.1
  obtain ⟨g1, g2, g3, g4⟩ := m_x_f ok h x
  have p1 := g1.2.2.2.2 a ha.1 (by omega)
  unfold OkP at p1
  refine ev_intro ym_X4_wishOfFirst.1 (Nat.le_of_ble_eq_true rfl) (fun hv hσ K S => ?_)
  have hv := hv
  show K 0 [some (kr 0), some (ki a), some (ki d), some (ki x)] [] σ
  refine ks_aload_n (n := 1) S dX4_wishOfFirst_0 rfl rfl ?_
  refine ks_getr (n := 4) S dX4_wishOfFirst_1 rfl fl_X4_16 rfl rfl ?_
  refine ks_aload_n (n := 5) S dX4_wishOfFirst_4 rfl rfl ?_
  refine ks_getr (n := 8) S dX4_wishOfFirst_5 rfl fl_X4_10 rfl rfl ?_
  refine ks_v1v (n := 11) S dX4_wishOfFirst_8 rfl ml_X4_66 ym_X0_copyFrom (ev_X0_copyFrom kq_H11 kq_H1 (by decide) R ok) (by decide) kq_H11.o (Nat.le_of_ble_eq_true rfl) (fun τ8 q8 => ?_)
  obtain ⟨-, R1, F1⟩ := q8
  refine ks_iload_n (n := 12) S dX4_wishOfFirst_11 rfl rfl ?_
  refine ks_iconst (n := 13) S dX4_wishOfFirst_12 rfl (by unfold iv; decide) ?_
  refine ks_icmp_ne (n := 16) (tgt := 25) S dX4_wishOfFirst_13 rfl rfl (fun h13 => ?_) (fun h13 => ?_)
  · skip
    first | rw [if_neg h13] at g3 p1 | rw [if_pos h13] at g3 p1
    have f1 := (R1.2.2.2.2 a ha.1 (by omega)).2.2
    refine ks_aload_n (n := 26) S dX4_wishOfFirst_25 rfl rfl ?_
    refine ks_getr (n := 29) S dX4_wishOfFirst_26 rfl fl_X4_16 rfl rfl ?_
    refine ks_getr (n := 32) S dX4_wishOfFirst_29 rfl fl_X4_108 kq_H11.o rfl ?_
    refine ks_iload_n (n := 33) S dX4_wishOfFirst_32 rfl rfl ?_
    refine ks_iaload (n := 34) S dX4_wishOfFirst_33 rfl kq_H11.a9 (by omega) ?_
    refine ks_iconst (n := 35) S dX4_wishOfFirst_34 rfl (by unfold iv; decide) ?_
    refine ks_iload_n (n := 36) S dX4_wishOfFirst_35 rfl rfl ?_
    refine ks_imul (n := 37) S dX4_wishOfFirst_36 rfl (by omega) ?_
    refine ks_isub (n := 38) S dX4_wishOfFirst_37 rfl (by omega) ?_
    refine ks_iret S dX4_wishOfFirst_38 ?_
    refine ⟨?_, FrT.ofH F1⟩
    unfold m_w1
    first | rw [if_neg h13, f1] | rw [if_pos h13, f1]
  · skip
    first | rw [if_neg h13] at g3 p1 | rw [if_pos h13] at g3 p1
    refine ks_aload_n (n := 17) S dX4_wishOfFirst_16 rfl rfl ?_
    refine ks_getr (n := 20) S dX4_wishOfFirst_17 rfl fl_X4_16 rfl rfl ?_
    refine ks_iload_n (n := 21) S dX4_wishOfFirst_20 rfl rfl ?_
    refine ks_iload_n (n := 22) S dX4_wishOfFirst_21 rfl rfl ?_
    refine ks_v2v (n := 25) S dX4_wishOfFirst_22 rfl ml_X4_118 ym_X0_open (ev_X0_open kq_H11 R1 ok h.1 h.2.2.2.1 h.2.2.2.2.2) (by decide) kq_H11.o (Nat.le_of_ble_eq_true rfl) (fun τ22 q22 => ?_)
    obtain ⟨-, R2, F2⟩ := q22
    have F1 := F1.tr F2
    have R1 := R2
    have f1 := (R1.2.2.2.2 a ha.1 (by omega)).2.2
    refine ks_aload_n (n := 26) S dX4_wishOfFirst_25 rfl rfl ?_
    refine ks_getr (n := 29) S dX4_wishOfFirst_26 rfl fl_X4_16 rfl rfl ?_
    refine ks_getr (n := 32) S dX4_wishOfFirst_29 rfl fl_X4_108 kq_H11.o rfl ?_
    refine ks_iload_n (n := 33) S dX4_wishOfFirst_32 rfl rfl ?_
    refine ks_iaload (n := 34) S dX4_wishOfFirst_33 rfl kq_H11.a9 (by omega) ?_
    refine ks_iconst (n := 35) S dX4_wishOfFirst_34 rfl (by unfold iv; decide) ?_
    refine ks_iload_n (n := 36) S dX4_wishOfFirst_35 rfl rfl ?_
    refine ks_imul (n := 37) S dX4_wishOfFirst_36 rfl (by omega) ?_
    refine ks_isub (n := 38) S dX4_wishOfFirst_37 rfl (by omega) ?_
    refine ks_iret S dX4_wishOfFirst_38 ?_
    refine ⟨?_, FrT.ofH F1⟩
    unfold m_w1
    first | rw [if_neg h13, f1] | rw [if_pos h13, f1]
theorem ev_X4_firstIsContent {a b d x : Int} (hM : OkM M) (hC : RC σ M) (h : m_tw (M 39) a b d) (hx : x = 0 ∨ x = 1) : Ev l yX4_firstIsContent cX4_firstIsContent 4 (some .boolean) 4 89 [kr 0, ki a, ki d, ki x] σ (fun r τ => r = some (ki (bi (m_w1 (M 39) a d x ≤ m_w1 (M 39) a d (1 - x)))) ∧ FrT σ τ) := by
  refine ev_intro ym_X4_firstIsContent.1 (Nat.le_of_ble_eq_true rfl) (fun hv hσ K S => ?_)
  have hv := hv
  show K 0 [some (kr 0), some (ki a), some (ki d), some (ki x)] [] σ
  refine ks_aload_n (n := 1) S dX4_firstIsContent_0 rfl rfl ?_
  refine ks_iload_n (n := 2) S dX4_firstIsContent_1 rfl rfl ?_
  refine ks_iload_n (n := 3) S dX4_firstIsContent_2 rfl rfl ?_
  refine ks_iload_n (n := 4) S dX4_firstIsContent_3 rfl rfl ?_
  refine ks_v3i (n := 7) S dX4_firstIsContent_4 rfl ml_X4_210 ym_X4_wishOfFirst (ev_X4_wishOfFirst hM hC h hx) (by decide) rfl (Nat.le_of_ble_eq_true rfl) (fun r4 τ4 q4 => ?_)
  obtain ⟨q1, F1⟩ := q4
  cases q1
  refine ks_aload_n (n := 8) S dX4_firstIsContent_7 rfl rfl ?_
  refine ks_iload_n (n := 9) S dX4_firstIsContent_8 rfl rfl ?_
  refine ks_iload_n (n := 10) S dX4_firstIsContent_9 rfl rfl ?_
  refine ks_iconst (n := 11) S dX4_firstIsContent_10 rfl (by unfold iv; decide) ?_
  refine ks_iload_n (n := 12) S dX4_firstIsContent_11 rfl rfl ?_
  refine ks_isub (n := 13) S dX4_firstIsContent_12 rfl (by omega) ?_
  refine ks_v3i (n := 16) S dX4_firstIsContent_13 rfl ml_X4_210 ym_X4_wishOfFirst (ev_X4_wishOfFirst hM (hC.fr F1) h (by omega)) (by decide) rfl (Nat.le_of_ble_eq_true rfl) (fun r13 τ13 q13 => ?_)
  obtain ⟨q1, F2⟩ := q13
  cases q1
  refine ks_icmp_gt (n := 19) (tgt := 23) S dX4_firstIsContent_16 rfl rfl (fun h16 => ?_) (fun h16 => ?_)
  · skip
    refine ks_iconst (n := 24) S dX4_firstIsContent_23 rfl (by unfold iv; decide) ?_
    refine ks_zret S dX4_firstIsContent_24 (by first | exact Or.inl rfl | exact Or.inr rfl | exact bi_01) ?_
    first | exact ⟨by rw [bi_t (by omega)], F1.tr F2⟩ | exact ⟨by rw [bi_f (by omega)], F1.tr F2⟩
  · skip
    refine ks_iconst (n := 20) S dX4_firstIsContent_19 rfl (by unfold iv; decide) ?_
    refine ks_goto (n := 24) S dX4_firstIsContent_20 rfl ?_
    refine ks_zret S dX4_firstIsContent_24 (by first | exact Or.inl rfl | exact Or.inr rfl | exact bi_01) ?_
    first | exact ⟨by rw [bi_t (by omega)], F1.tr F2⟩ | exact ⟨by rw [bi_f (by omega)], F1.tr F2⟩
theorem ev_X4_wishOfSecond {a b d x y : Int} (hM : OkM M) (hC : RC σ M) (h : m_tw (M 39) a b d) (hx : x = 0 ∨ x = 1) (hy : y = 0 ∨ y = 1) : Ev l yX4_wishOfSecond cX4_wishOfSecond 6 (some .int) 3 66 [kr 0, ki a, ki b, ki d, ki x, ki y] σ (fun r τ => r = some (ki (m_w2 (M 39) a b d x y)) ∧ FrT σ τ) := by
  have R := hC.1
  have ok := hM.1
  have n9 := ok.1
  have n6 := ok.2.1
  have hb := h.2.1
  obtain ⟨g1, g2, g3, g4⟩ := m_x_f ok h x
  obtain ⟨k1, k2, k3⟩ := m_xy_ok ok h x y
  have p1 := k1.2.2.2.2 b hb.1 (by omega)
  unfold OkP at p1
  refine ev_intro ym_X4_wishOfSecond.1 (Nat.le_of_ble_eq_true rfl) (fun hv hσ K S => ?_)
  have hv := hv
  show K 0 [some (kr 0), some (ki a), some (ki b), some (ki d), some (ki x), some (ki y)] [] σ
  refine ks_aload_n (n := 1) S dX4_wishOfSecond_0 rfl rfl ?_
  refine ks_getr (n := 4) S dX4_wishOfSecond_1 rfl fl_X4_16 rfl rfl ?_
  refine ks_aload_n (n := 5) S dX4_wishOfSecond_4 rfl rfl ?_
  refine ks_getr (n := 8) S dX4_wishOfSecond_5 rfl fl_X4_10 rfl rfl ?_
  refine ks_v1v (n := 11) S dX4_wishOfSecond_8 rfl ml_X4_66 ym_X0_copyFrom (ev_X0_copyFrom kq_H11 kq_H1 (by decide) R ok) (by decide) kq_H11.o (Nat.le_of_ble_eq_true rfl) (fun τ8 q8 => ?_)
  obtain ⟨-, R1, F1⟩ := q8
  refine ks_iload (n := 13) S dX4_wishOfSecond_11 rfl rfl ?_
  refine ks_iconst (n := 14) S dX4_wishOfSecond_13 rfl (by unfold iv; decide) ?_
  refine ks_icmp_ne (n := 17) (tgt := 26) S dX4_wishOfSecond_14 rfl rfl (fun h14 => ?_) (fun h14 => ?_)
  · skip
    first | have R1 := RepH.cast (if_neg h14 : (if x = 1 then m_open (M 39) a d else M 39) = M 39) R1 | have R1 := RepH.cast (if_pos h14 : (if x = 1 then m_open (M 39) a d else M 39) = m_open (M 39) a d) R1
    refine ks_iload (n := 28) S dX4_wishOfSecond_26 rfl rfl ?_
    refine ks_iconst (n := 29) S dX4_wishOfSecond_28 rfl (by unfold iv; decide) ?_
    refine ks_icmp_ne (n := 32) (tgt := 41) S dX4_wishOfSecond_29 rfl rfl (fun h29 => ?_) (fun h29 => ?_)
    · skip
      first | have R1 := RepH.cast (b := m_xy (M 39) a x b y d) (if_neg h29) R1 | have R1 := RepH.cast (b := m_xy (M 39) a x b y d) (if_pos h29) R1
      have f1 := (R1.2.2.2.2 b hb.1 (by omega)).2.2
      refine ks_aload_n (n := 42) S dX4_wishOfSecond_41 rfl rfl ?_
      refine ks_getr (n := 45) S dX4_wishOfSecond_42 rfl fl_X4_16 rfl rfl ?_
      refine ks_getr (n := 48) S dX4_wishOfSecond_45 rfl fl_X4_108 kq_H11.o rfl ?_
      refine ks_iload_n (n := 49) S dX4_wishOfSecond_48 rfl rfl ?_
      refine ks_iaload (n := 50) S dX4_wishOfSecond_49 rfl kq_H11.a9 (by omega) ?_
      refine ks_iconst (n := 51) S dX4_wishOfSecond_50 rfl (by unfold iv; decide) ?_
      refine ks_iload (n := 53) S dX4_wishOfSecond_51 rfl rfl ?_
      refine ks_imul (n := 54) S dX4_wishOfSecond_53 rfl (by omega) ?_
      refine ks_isub (n := 55) S dX4_wishOfSecond_54 rfl (by omega) ?_
      refine ks_iret S dX4_wishOfSecond_55 ?_
      refine ⟨?_, FrT.ofH F1⟩
      unfold m_w2
      rw [f1]
    · skip
      refine ks_aload_n (n := 33) S dX4_wishOfSecond_32 rfl rfl ?_
      refine ks_getr (n := 36) S dX4_wishOfSecond_33 rfl fl_X4_16 rfl rfl ?_
      refine ks_iload_n (n := 37) S dX4_wishOfSecond_36 rfl rfl ?_
      refine ks_iload_n (n := 38) S dX4_wishOfSecond_37 rfl rfl ?_
      refine ks_v2v (n := 41) S dX4_wishOfSecond_38 rfl ml_X4_118 ym_X0_open (ev_X0_open kq_H11 R1 g1 (by rw [g3]; exact hb) (by rw [g2]; exact h.2.2.2.1) g4) (by decide) kq_H11.o (Nat.le_of_ble_eq_true rfl) (fun τ38 q38 => ?_)
      obtain ⟨-, R2, F2⟩ := q38
      have F1 := F1.tr F2
      have R1 := R2
      first | have R1 := RepH.cast (b := m_xy (M 39) a x b y d) (if_neg h29) R1 | have R1 := RepH.cast (b := m_xy (M 39) a x b y d) (if_pos h29) R1
      have f1 := (R1.2.2.2.2 b hb.1 (by omega)).2.2
      refine ks_aload_n (n := 42) S dX4_wishOfSecond_41 rfl rfl ?_
      refine ks_getr (n := 45) S dX4_wishOfSecond_42 rfl fl_X4_16 rfl rfl ?_
      refine ks_getr (n := 48) S dX4_wishOfSecond_45 rfl fl_X4_108 kq_H11.o rfl ?_
      refine ks_iload_n (n := 49) S dX4_wishOfSecond_48 rfl rfl ?_
      refine ks_iaload (n := 50) S dX4_wishOfSecond_49 rfl kq_H11.a9 (by omega) ?_
      refine ks_iconst (n := 51) S dX4_wishOfSecond_50 rfl (by unfold iv; decide) ?_
      refine ks_iload (n := 53) S dX4_wishOfSecond_51 rfl rfl ?_
      refine ks_imul (n := 54) S dX4_wishOfSecond_53 rfl (by omega) ?_
      refine ks_isub (n := 55) S dX4_wishOfSecond_54 rfl (by omega) ?_
      refine ks_iret S dX4_wishOfSecond_55 ?_
      refine ⟨?_, FrT.ofH F1⟩
      unfold m_w2
      rw [f1]
  · skip
    refine ks_aload_n (n := 18) S dX4_wishOfSecond_17 rfl rfl ?_
    refine ks_getr (n := 21) S dX4_wishOfSecond_18 rfl fl_X4_16 rfl rfl ?_
    refine ks_iload_n (n := 22) S dX4_wishOfSecond_21 rfl rfl ?_
    refine ks_iload_n (n := 23) S dX4_wishOfSecond_22 rfl rfl ?_
    refine ks_v2v (n := 26) S dX4_wishOfSecond_23 rfl ml_X4_118 ym_X0_open (ev_X0_open kq_H11 R1 ok h.1 h.2.2.2.1 h.2.2.2.2.2) (by decide) kq_H11.o (Nat.le_of_ble_eq_true rfl) (fun τ23 q23 => ?_)
    obtain ⟨-, R2, F2⟩ := q23
    have F1 := F1.tr F2
    have R1 := R2
    first | have R1 := RepH.cast (if_neg h14 : (if x = 1 then m_open (M 39) a d else M 39) = M 39) R1 | have R1 := RepH.cast (if_pos h14 : (if x = 1 then m_open (M 39) a d else M 39) = m_open (M 39) a d) R1
    refine ks_iload (n := 28) S dX4_wishOfSecond_26 rfl rfl ?_
    refine ks_iconst (n := 29) S dX4_wishOfSecond_28 rfl (by unfold iv; decide) ?_
    refine ks_icmp_ne (n := 32) (tgt := 41) S dX4_wishOfSecond_29 rfl rfl (fun h29 => ?_) (fun h29 => ?_)
    · skip
      first | have R1 := RepH.cast (b := m_xy (M 39) a x b y d) (if_neg h29) R1 | have R1 := RepH.cast (b := m_xy (M 39) a x b y d) (if_pos h29) R1
      have f1 := (R1.2.2.2.2 b hb.1 (by omega)).2.2
      refine ks_aload_n (n := 42) S dX4_wishOfSecond_41 rfl rfl ?_
      refine ks_getr (n := 45) S dX4_wishOfSecond_42 rfl fl_X4_16 rfl rfl ?_
      refine ks_getr (n := 48) S dX4_wishOfSecond_45 rfl fl_X4_108 kq_H11.o rfl ?_
      refine ks_iload_n (n := 49) S dX4_wishOfSecond_48 rfl rfl ?_
      refine ks_iaload (n := 50) S dX4_wishOfSecond_49 rfl kq_H11.a9 (by omega) ?_
      refine ks_iconst (n := 51) S dX4_wishOfSecond_50 rfl (by unfold iv; decide) ?_
      refine ks_iload (n := 53) S dX4_wishOfSecond_51 rfl rfl ?_
      refine ks_imul (n := 54) S dX4_wishOfSecond_53 rfl (by omega) ?_
      refine ks_isub (n := 55) S dX4_wishOfSecond_54 rfl (by omega) ?_
      refine ks_iret S dX4_wishOfSecond_55 ?_
      refine ⟨?_, FrT.ofH F1⟩
      unfold m_w2
      rw [f1]
    · skip
      refine ks_aload_n (n := 33) S dX4_wishOfSecond_32 rfl rfl ?_
      refine ks_getr (n := 36) S dX4_wishOfSecond_33 rfl fl_X4_16 rfl rfl ?_
      refine ks_iload_n (n := 37) S dX4_wishOfSecond_36 rfl rfl ?_
      refine ks_iload_n (n := 38) S dX4_wishOfSecond_37 rfl rfl ?_
      refine ks_v2v (n := 41) S dX4_wishOfSecond_38 rfl ml_X4_118 ym_X0_open (ev_X0_open kq_H11 R1 g1 (by rw [g3]; exact hb) (by rw [g2]; exact h.2.2.2.1) g4) (by decide) kq_H11.o (Nat.le_of_ble_eq_true rfl) (fun τ38 q38 => ?_)
      obtain ⟨-, R2, F2⟩ := q38
      have F1 := F1.tr F2
      have R1 := R2
      first | have R1 := RepH.cast (b := m_xy (M 39) a x b y d) (if_neg h29) R1 | have R1 := RepH.cast (b := m_xy (M 39) a x b y d) (if_pos h29) R1
      have f1 := (R1.2.2.2.2 b hb.1 (by omega)).2.2
      refine ks_aload_n (n := 42) S dX4_wishOfSecond_41 rfl rfl ?_
      refine ks_getr (n := 45) S dX4_wishOfSecond_42 rfl fl_X4_16 rfl rfl ?_
      refine ks_getr (n := 48) S dX4_wishOfSecond_45 rfl fl_X4_108 kq_H11.o rfl ?_
      refine ks_iload_n (n := 49) S dX4_wishOfSecond_48 rfl rfl ?_
      refine ks_iaload (n := 50) S dX4_wishOfSecond_49 rfl kq_H11.a9 (by omega) ?_
      refine ks_iconst (n := 51) S dX4_wishOfSecond_50 rfl (by unfold iv; decide) ?_
      refine ks_iload (n := 53) S dX4_wishOfSecond_51 rfl rfl ?_
      refine ks_imul (n := 54) S dX4_wishOfSecond_53 rfl (by omega) ?_
      refine ks_isub (n := 55) S dX4_wishOfSecond_54 rfl (by omega) ?_
      refine ks_iret S dX4_wishOfSecond_55 ?_
      refine ⟨?_, FrT.ofH F1⟩
      unfold m_w2
      rw [f1]
theorem ev_X4_secondIsContent {a b d x y : Int} (hM : OkM M) (hC : RC σ M) (h : m_tw (M 39) a b d) (hx : x = 0 ∨ x = 1) (hy : y = 0 ∨ y = 1) : Ev l yX4_secondIsContent cX4_secondIsContent 6 (some .boolean) 4 91 [kr 0, ki a, ki b, ki d, ki x, ki y] σ (fun r τ => r = some (ki (bi (m_w2 (M 39) a b d x y ≤ m_w2 (M 39) a b d x (1 - y)))) ∧ FrT σ τ) := by
  refine ev_intro ym_X4_secondIsContent.1 (Nat.le_of_ble_eq_true rfl) (fun hv hσ K S => ?_)
  have hv := hv
  show K 0 [some (kr 0), some (ki a), some (ki b), some (ki d), some (ki x), some (ki y)] [] σ
  refine ks_aload_n (n := 1) S dX4_secondIsContent_0 rfl rfl ?_
  refine ks_iload_n (n := 2) S dX4_secondIsContent_1 rfl rfl ?_
  refine ks_iload_n (n := 3) S dX4_secondIsContent_2 rfl rfl ?_
  refine ks_iload_n (n := 4) S dX4_secondIsContent_3 rfl rfl ?_
  refine ks_iload (n := 6) S dX4_secondIsContent_4 rfl rfl ?_
  refine ks_iload (n := 8) S dX4_secondIsContent_6 rfl rfl ?_
  refine ks_v5i (n := 11) S dX4_secondIsContent_8 rfl ml_X4_213 ym_X4_wishOfSecond (ev_X4_wishOfSecond hM hC h hx hy) (by decide) rfl (Nat.le_of_ble_eq_true rfl) (fun r8 τ8 q8 => ?_)
  obtain ⟨q1, F1⟩ := q8
  cases q1
  refine ks_aload_n (n := 12) S dX4_secondIsContent_11 rfl rfl ?_
  refine ks_iload_n (n := 13) S dX4_secondIsContent_12 rfl rfl ?_
  refine ks_iload_n (n := 14) S dX4_secondIsContent_13 rfl rfl ?_
  refine ks_iload_n (n := 15) S dX4_secondIsContent_14 rfl rfl ?_
  refine ks_iload (n := 17) S dX4_secondIsContent_15 rfl rfl ?_
  refine ks_iconst (n := 18) S dX4_secondIsContent_17 rfl (by unfold iv; decide) ?_
  refine ks_iload (n := 20) S dX4_secondIsContent_18 rfl rfl ?_
  refine ks_isub (n := 21) S dX4_secondIsContent_20 rfl (by omega) ?_
  refine ks_v5i (n := 24) S dX4_secondIsContent_21 rfl ml_X4_213 ym_X4_wishOfSecond (ev_X4_wishOfSecond hM (hC.fr F1) h hx (by omega)) (by decide) rfl (Nat.le_of_ble_eq_true rfl) (fun r21 τ21 q21 => ?_)
  obtain ⟨q1, F2⟩ := q21
  cases q1
  refine ks_icmp_gt (n := 27) (tgt := 31) S dX4_secondIsContent_24 rfl rfl (fun h24 => ?_) (fun h24 => ?_)
  · skip
    refine ks_iconst (n := 32) S dX4_secondIsContent_31 rfl (by unfold iv; decide) ?_
    refine ks_zret S dX4_secondIsContent_32 (by first | exact Or.inl rfl | exact Or.inr rfl | exact bi_01) ?_
    first | exact ⟨by rw [bi_t (by omega)], F1.tr F2⟩ | exact ⟨by rw [bi_f (by omega)], F1.tr F2⟩
  · skip
    refine ks_iconst (n := 28) S dX4_secondIsContent_27 rfl (by unfold iv; decide) ?_
    refine ks_goto (n := 32) S dX4_secondIsContent_28 rfl ?_
    refine ks_zret S dX4_secondIsContent_32 (by first | exact Or.inl rfl | exact Or.inr rfl | exact bi_01) ?_
    first | exact ⟨by rw [bi_t (by omega)], F1.tr F2⟩ | exact ⟨by rw [bi_f (by omega)], F1.tr F2⟩
theorem pc_two {a b d : Int} (hM : OkM M) (hC : RC σ M) : Ev l yX4_two cX4_two 7 (some .int) 5 116 [kr 0, ki a, ki b, ki d] σ (QC (A_two M a b d) σ) := by
  have R := hC.1
  have ok := hM.1
  have n9 := ok.1
  have n6 := ok.2.1
  refine ev_intro ym_X4_two.1 (Nat.le_of_ble_eq_true rfl) (fun hv hσ K S => ?_)
  have hv := hv
  show K 0 [some (kr 0), some (ki a), some (ki b), some (ki d), none, none, none] [] σ
  refine ks_aload_n (n := 1) S dX4_two_0 rfl rfl ?_
  refine ks_iload_n (n := 2) S dX4_two_1 rfl rfl ?_
  refine ks_iload_n (n := 3) S dX4_two_2 rfl rfl ?_
  refine ks_iload_n (n := 4) S dX4_two_3 rfl rfl ?_
  refine kf_v3i (n := 7) S dX4_two_4 rfl ml_X4_190 ym_X4_notTogether (ev_X4_notTogether hM hC) (by decide) rfl (Nat.le_of_ble_eq_true rfl) ?_
  rcases m_nt_c (M 39) a b d with hw4 | hw4 | ⟨hw4, ht4⟩
  · skip
    rw [hw4]
    refine ks_istore (n := 9) S dX4_two_7 rfl (L' := fun y => [some (kr 0), some (ki a), some (ki b), some (ki d), some (ki y), none, none]) (Nat.le_of_ble_eq_true rfl) (fun _ => rfl) (fun v4_7 hv7 => ?_)
    obtain rfl : v4_7 = -1 := by omega
    refine ks_iload (n := 11) S dX4_two_9 rfl rfl ?_
    refine ks_if_ge (n := 14) (tgt := 21) S dX4_two_11 rfl rfl (fun h11 => ?_) (fun h11 => ?_)
    · omega
    refine ks_aload_n (n := 15) S dX4_two_14 rfl rfl ?_
    refine ks_iload (n := 17) S dX4_two_15 rfl rfl ?_
    refine kf_v1i (n := 20) S dX4_two_17 rfl ml_X4_51 ym_X4_refuse (ev_X4_refuse (by omega)) (by decide) rfl (Nat.le_of_ble_eq_true rfl) ?_
    refine ks_iret S dX4_two_20 ?_
    exact qc_r hC (by omega) (by unfold A_two; rw [hw4, if_pos (by decide)])
  · skip
    rw [hw4]
    refine ks_istore (n := 9) S dX4_two_7 rfl (L' := fun y => [some (kr 0), some (ki a), some (ki b), some (ki d), some (ki y), none, none]) (Nat.le_of_ble_eq_true rfl) (fun _ => rfl) (fun v4_7 hv7 => ?_)
    obtain rfl : v4_7 = -3 := by omega
    refine ks_iload (n := 11) S dX4_two_9 rfl rfl ?_
    refine ks_if_ge (n := 14) (tgt := 21) S dX4_two_11 rfl rfl (fun h11 => ?_) (fun h11 => ?_)
    · omega
    refine ks_aload_n (n := 15) S dX4_two_14 rfl rfl ?_
    refine ks_iload (n := 17) S dX4_two_15 rfl rfl ?_
    refine kf_v1i (n := 20) S dX4_two_17 rfl ml_X4_51 ym_X4_refuse (ev_X4_refuse (by omega)) (by decide) rfl (Nat.le_of_ble_eq_true rfl) ?_
    refine ks_iret S dX4_two_20 ?_
    exact qc_r hC (by omega) (by unfold A_two; rw [hw4, if_pos (by decide)])
  · skip
    rw [hw4]
    refine ks_istore (n := 9) S dX4_two_7 rfl (L' := fun y => [some (kr 0), some (ki a), some (ki b), some (ki d), some (ki y), none, none]) (Nat.le_of_ble_eq_true rfl) (fun _ => rfl) (fun v4_7 hv7 => ?_)
    obtain rfl : v4_7 = 0 := by omega
    refine ks_iload (n := 11) S dX4_two_9 rfl rfl ?_
    refine ks_if_ge (n := 14) (tgt := 21) S dX4_two_11 rfl rfl (fun h11 => ?_) (fun h11 => ?_)
    rotate_left
    · omega
    have F : FrT σ σ := FrT.rf
    refine ks_iconst (n := 22) S dX4_two_21 rfl (by unfold iv; decide) ?_
    refine ks_istore (n := 24) S dX4_two_22 rfl (L' := fun y => [some (kr 0), some (ki a), some (ki b), some (ki d), some (ki (0)), some (ki y), none]) (Nat.le_of_ble_eq_true rfl) (fun _ => rfl) (fun v5_22 hv22 => ?_)
    obtain rfl : v5_22 = 0 := by omega
    refine ks_iload (n := 26) S dX4_two_24 rfl rfl ?_
    refine ks_iconst (n := 27) S dX4_two_26 rfl (by unfold iv; decide) ?_
    refine ks_icmp_gt (n := 30) (tgt := 85) S dX4_two_27 rfl rfl (fun h27 => ?_) (fun h27 => ?_)
    · omega
    refine ks_iconst (n := 31) S dX4_two_30 rfl (by unfold iv; decide) ?_
    refine ks_istore (n := 33) S dX4_two_31 rfl (L' := fun y => [some (kr 0), some (ki a), some (ki b), some (ki d), some (ki (0)), some (ki (0)), some (ki y)]) (Nat.le_of_ble_eq_true rfl) (fun _ => rfl) (fun v6_31 hv31 => ?_)
    obtain rfl : v6_31 = 0 := by omega
    refine ks_iload (n := 35) S dX4_two_33 rfl rfl ?_
    refine ks_iconst (n := 36) S dX4_two_35 rfl (by unfold iv; decide) ?_
    refine ks_icmp_gt (n := 39) (tgt := 79) S dX4_two_36 rfl rfl (fun h36 => ?_) (fun h36 => ?_)
    · omega
    refine ks_aload_n (n := 40) S dX4_two_39 rfl rfl ?_
    refine ks_iload_n (n := 41) S dX4_two_40 rfl rfl ?_
    refine ks_iload_n (n := 42) S dX4_two_41 rfl rfl ?_
    refine ks_iload (n := 44) S dX4_two_42 rfl rfl ?_
    refine ks_v3z (n := 47) S dX4_two_44 rfl ml_X4_202 ym_X4_firstIsContent (ev_X4_firstIsContent hM (hC.fr F) ht4 (by omega)) (by decide) rfl (Nat.le_of_ble_eq_true rfl) (fun r44 τ44 q44 => ?_)
    obtain ⟨q1, q2⟩ := q44
    have F := F.tr q2
    cases q1
    refine ks_if_eq (n := 50) (tgt := 73) S dX4_two_47 rfl rfl (fun h47 => ?_) (fun h47 => ?_)
    · skip
      simp only [bi_eq, bi_ne, Classical.not_not] at h47
      refine ks_iinc (n := 76) S dX4_two_73 rfl rfl (by omega) (L' := fun y => [some (kr 0), some (ki a), some (ki b), some (ki d), some (ki (0)), some (ki (0)), some (ki y)]) (fun _ => rfl) (fun v6_73 hv73 => ?_)
      obtain rfl : v6_73 = 1 := by omega
      refine ks_goto (n := 33) S dX4_two_76 rfl ?_
      refine ks_iload (n := 35) S dX4_two_33 rfl rfl ?_
      refine ks_iconst (n := 36) S dX4_two_35 rfl (by unfold iv; decide) ?_
      refine ks_icmp_gt (n := 39) (tgt := 79) S dX4_two_36 rfl rfl (fun h36 => ?_) (fun h36 => ?_)
      · omega
      refine ks_aload_n (n := 40) S dX4_two_39 rfl rfl ?_
      refine ks_iload_n (n := 41) S dX4_two_40 rfl rfl ?_
      refine ks_iload_n (n := 42) S dX4_two_41 rfl rfl ?_
      refine ks_iload (n := 44) S dX4_two_42 rfl rfl ?_
      refine ks_v3z (n := 47) S dX4_two_44 rfl ml_X4_202 ym_X4_firstIsContent (ev_X4_firstIsContent hM (hC.fr F) ht4 (by omega)) (by decide) rfl (Nat.le_of_ble_eq_true rfl) (fun r44 τ44 q44 => ?_)
      obtain ⟨q1, q2⟩ := q44
      have F := F.tr q2
      cases q1
      refine ks_if_eq (n := 50) (tgt := 73) S dX4_two_47 rfl rfl (fun h47 => ?_) (fun h47 => ?_)
      · skip
        simp only [bi_eq, bi_ne, Classical.not_not] at h47
        refine ks_iinc (n := 76) S dX4_two_73 rfl rfl (by omega) (L' := fun y => [some (kr 0), some (ki a), some (ki b), some (ki d), some (ki (0)), some (ki (0)), some (ki y)]) (fun _ => rfl) (fun v6_73 hv73 => ?_)
        obtain rfl : v6_73 = 2 := by omega
        refine ks_goto (n := 33) S dX4_two_76 rfl ?_
        refine ks_iload (n := 35) S dX4_two_33 rfl rfl ?_
        refine ks_iconst (n := 36) S dX4_two_35 rfl (by unfold iv; decide) ?_
        refine ks_icmp_gt (n := 39) (tgt := 79) S dX4_two_36 rfl rfl (fun h36 => ?_) (fun h36 => ?_)
        rotate_left
        · omega
        refine ks_iinc (n := 82) S dX4_two_79 rfl rfl (by omega) (L' := fun y => [some (kr 0), some (ki a), some (ki b), some (ki d), some (ki (0)), some (ki y), some (ki (2))]) (fun _ => rfl) (fun v5_79 hv79 => ?_)
        obtain rfl : v5_79 = 1 := by omega
        refine ks_goto (n := 24) S dX4_two_82 rfl ?_
        refine ks_iload (n := 26) S dX4_two_24 rfl rfl ?_
        refine ks_iconst (n := 27) S dX4_two_26 rfl (by unfold iv; decide) ?_
        refine ks_icmp_gt (n := 30) (tgt := 85) S dX4_two_27 rfl rfl (fun h27 => ?_) (fun h27 => ?_)
        · omega
        refine ks_iconst (n := 31) S dX4_two_30 rfl (by unfold iv; decide) ?_
        refine ks_istore (n := 33) S dX4_two_31 rfl (L' := fun y => [some (kr 0), some (ki a), some (ki b), some (ki d), some (ki (0)), some (ki (1)), some (ki y)]) (Nat.le_of_ble_eq_true rfl) (fun _ => rfl) (fun v6_31 hv31 => ?_)
        obtain rfl : v6_31 = 0 := by omega
        refine ks_iload (n := 35) S dX4_two_33 rfl rfl ?_
        refine ks_iconst (n := 36) S dX4_two_35 rfl (by unfold iv; decide) ?_
        refine ks_icmp_gt (n := 39) (tgt := 79) S dX4_two_36 rfl rfl (fun h36 => ?_) (fun h36 => ?_)
        · omega
        refine ks_aload_n (n := 40) S dX4_two_39 rfl rfl ?_
        refine ks_iload_n (n := 41) S dX4_two_40 rfl rfl ?_
        refine ks_iload_n (n := 42) S dX4_two_41 rfl rfl ?_
        refine ks_iload (n := 44) S dX4_two_42 rfl rfl ?_
        refine ks_v3z (n := 47) S dX4_two_44 rfl ml_X4_202 ym_X4_firstIsContent (ev_X4_firstIsContent hM (hC.fr F) ht4 (by omega)) (by decide) rfl (Nat.le_of_ble_eq_true rfl) (fun r44 τ44 q44 => ?_)
        obtain ⟨q1, q2⟩ := q44
        have F := F.tr q2
        cases q1
        refine ks_if_eq (n := 50) (tgt := 73) S dX4_two_47 rfl rfl (fun h47 => ?_) (fun h47 => ?_)
        · skip
          simp only [bi_eq, bi_ne, Classical.not_not] at h47
          refine ks_iinc (n := 76) S dX4_two_73 rfl rfl (by omega) (L' := fun y => [some (kr 0), some (ki a), some (ki b), some (ki d), some (ki (0)), some (ki (1)), some (ki y)]) (fun _ => rfl) (fun v6_73 hv73 => ?_)
          obtain rfl : v6_73 = 1 := by omega
          refine ks_goto (n := 33) S dX4_two_76 rfl ?_
          refine ks_iload (n := 35) S dX4_two_33 rfl rfl ?_
          refine ks_iconst (n := 36) S dX4_two_35 rfl (by unfold iv; decide) ?_
          refine ks_icmp_gt (n := 39) (tgt := 79) S dX4_two_36 rfl rfl (fun h36 => ?_) (fun h36 => ?_)
          · omega
          refine ks_aload_n (n := 40) S dX4_two_39 rfl rfl ?_
          refine ks_iload_n (n := 41) S dX4_two_40 rfl rfl ?_
          refine ks_iload_n (n := 42) S dX4_two_41 rfl rfl ?_
          refine ks_iload (n := 44) S dX4_two_42 rfl rfl ?_
          refine ks_v3z (n := 47) S dX4_two_44 rfl ml_X4_202 ym_X4_firstIsContent (ev_X4_firstIsContent hM (hC.fr F) ht4 (by omega)) (by decide) rfl (Nat.le_of_ble_eq_true rfl) (fun r44 τ44 q44 => ?_)
          obtain ⟨q1, q2⟩ := q44
          have F := F.tr q2
          cases q1
          refine ks_if_eq (n := 50) (tgt := 73) S dX4_two_47 rfl rfl (fun h47 => ?_) (fun h47 => ?_)
          · skip
            simp only [bi_eq, bi_ne, Classical.not_not] at h47
            refine ks_iinc (n := 76) S dX4_two_73 rfl rfl (by omega) (L' := fun y => [some (kr 0), some (ki a), some (ki b), some (ki d), some (ki (0)), some (ki (1)), some (ki y)]) (fun _ => rfl) (fun v6_73 hv73 => ?_)
            obtain rfl : v6_73 = 2 := by omega
            refine ks_goto (n := 33) S dX4_two_76 rfl ?_
            refine ks_iload (n := 35) S dX4_two_33 rfl rfl ?_
            refine ks_iconst (n := 36) S dX4_two_35 rfl (by unfold iv; decide) ?_
            refine ks_icmp_gt (n := 39) (tgt := 79) S dX4_two_36 rfl rfl (fun h36 => ?_) (fun h36 => ?_)
            rotate_left
            · omega
            refine ks_iinc (n := 82) S dX4_two_79 rfl rfl (by omega) (L' := fun y => [some (kr 0), some (ki a), some (ki b), some (ki d), some (ki (0)), some (ki y), some (ki (2))]) (fun _ => rfl) (fun v5_79 hv79 => ?_)
            obtain rfl : v5_79 = 2 := by omega
            refine ks_goto (n := 24) S dX4_two_82 rfl ?_
            refine ks_iload (n := 26) S dX4_two_24 rfl rfl ?_
            refine ks_iconst (n := 27) S dX4_two_26 rfl (by unfold iv; decide) ?_
            refine ks_icmp_gt (n := 30) (tgt := 85) S dX4_two_27 rfl rfl (fun h27 => ?_) (fun h27 => ?_)
            rotate_left
            · omega
            refine ks_bipush (n := 87) S dX4_two_85 rfl (by unfold iv; decide) ?_
            refine ks_iret S dX4_two_87 ?_
            exact qc_t hC F (by unfold A_two; rw [hw4, if_neg (by decide)]; refine congrArg (fun z => (z, M)) ?_; unfold m_P; (repeat' split) <;> omega)
          · skip
            simp only [bi_eq, bi_ne, Classical.not_not] at h47
            refine ks_aload_n (n := 51) S dX4_two_50 rfl rfl ?_
            refine ks_iload_n (n := 52) S dX4_two_51 rfl rfl ?_
            refine ks_iload_n (n := 53) S dX4_two_52 rfl rfl ?_
            refine ks_iload_n (n := 54) S dX4_two_53 rfl rfl ?_
            refine ks_iload (n := 56) S dX4_two_54 rfl rfl ?_
            refine ks_iload (n := 58) S dX4_two_56 rfl rfl ?_
            refine ks_v5z (n := 61) S dX4_two_58 rfl ml_X4_206 ym_X4_secondIsContent (ev_X4_secondIsContent hM (hC.fr F) ht4 (by omega) (by omega)) (by decide) rfl (Nat.le_of_ble_eq_true rfl) (fun r58 τ58 q58 => ?_)
            obtain ⟨q1, q2⟩ := q58
            have F := F.tr q2
            cases q1
            refine ks_if_eq (n := 64) (tgt := 73) S dX4_two_61 rfl rfl (fun h61 => ?_) (fun h61 => ?_)
            · skip
              simp only [bi_eq, bi_ne, Classical.not_not] at h61
              refine ks_iinc (n := 76) S dX4_two_73 rfl rfl (by omega) (L' := fun y => [some (kr 0), some (ki a), some (ki b), some (ki d), some (ki (0)), some (ki (1)), some (ki y)]) (fun _ => rfl) (fun v6_73 hv73 => ?_)
              obtain rfl : v6_73 = 2 := by omega
              refine ks_goto (n := 33) S dX4_two_76 rfl ?_
              refine ks_iload (n := 35) S dX4_two_33 rfl rfl ?_
              refine ks_iconst (n := 36) S dX4_two_35 rfl (by unfold iv; decide) ?_
              refine ks_icmp_gt (n := 39) (tgt := 79) S dX4_two_36 rfl rfl (fun h36 => ?_) (fun h36 => ?_)
              rotate_left
              · omega
              refine ks_iinc (n := 82) S dX4_two_79 rfl rfl (by omega) (L' := fun y => [some (kr 0), some (ki a), some (ki b), some (ki d), some (ki (0)), some (ki y), some (ki (2))]) (fun _ => rfl) (fun v5_79 hv79 => ?_)
              obtain rfl : v5_79 = 2 := by omega
              refine ks_goto (n := 24) S dX4_two_82 rfl ?_
              refine ks_iload (n := 26) S dX4_two_24 rfl rfl ?_
              refine ks_iconst (n := 27) S dX4_two_26 rfl (by unfold iv; decide) ?_
              refine ks_icmp_gt (n := 30) (tgt := 85) S dX4_two_27 rfl rfl (fun h27 => ?_) (fun h27 => ?_)
              rotate_left
              · omega
              refine ks_bipush (n := 87) S dX4_two_85 rfl (by unfold iv; decide) ?_
              refine ks_iret S dX4_two_87 ?_
              exact qc_t hC F (by unfold A_two; rw [hw4, if_neg (by decide)]; refine congrArg (fun z => (z, M)) ?_; unfold m_P; (repeat' split) <;> omega)
            · skip
              simp only [bi_eq, bi_ne, Classical.not_not] at h61
              refine ks_bipush (n := 66) S dX4_two_64 rfl (by unfold iv; decide) ?_
              refine ks_iload (n := 68) S dX4_two_66 rfl rfl ?_
              refine ks_imul (n := 69) S dX4_two_68 rfl (by omega) ?_
              refine ks_iload (n := 71) S dX4_two_69 rfl rfl ?_
              refine ks_iadd (n := 72) S dX4_two_71 rfl (by omega) ?_
              refine ks_iret S dX4_two_72 ?_
              exact qc_t hC F (by unfold A_two; rw [hw4, if_neg (by decide)]; refine congrArg (fun z => (z, M)) ?_; unfold m_P; (repeat' split) <;> omega)
        · skip
          simp only [bi_eq, bi_ne, Classical.not_not] at h47
          refine ks_aload_n (n := 51) S dX4_two_50 rfl rfl ?_
          refine ks_iload_n (n := 52) S dX4_two_51 rfl rfl ?_
          refine ks_iload_n (n := 53) S dX4_two_52 rfl rfl ?_
          refine ks_iload_n (n := 54) S dX4_two_53 rfl rfl ?_
          refine ks_iload (n := 56) S dX4_two_54 rfl rfl ?_
          refine ks_iload (n := 58) S dX4_two_56 rfl rfl ?_
          refine ks_v5z (n := 61) S dX4_two_58 rfl ml_X4_206 ym_X4_secondIsContent (ev_X4_secondIsContent hM (hC.fr F) ht4 (by omega) (by omega)) (by decide) rfl (Nat.le_of_ble_eq_true rfl) (fun r58 τ58 q58 => ?_)
          obtain ⟨q1, q2⟩ := q58
          have F := F.tr q2
          cases q1
          refine ks_if_eq (n := 64) (tgt := 73) S dX4_two_61 rfl rfl (fun h61 => ?_) (fun h61 => ?_)
          · skip
            simp only [bi_eq, bi_ne, Classical.not_not] at h61
            refine ks_iinc (n := 76) S dX4_two_73 rfl rfl (by omega) (L' := fun y => [some (kr 0), some (ki a), some (ki b), some (ki d), some (ki (0)), some (ki (1)), some (ki y)]) (fun _ => rfl) (fun v6_73 hv73 => ?_)
            obtain rfl : v6_73 = 1 := by omega
            refine ks_goto (n := 33) S dX4_two_76 rfl ?_
            refine ks_iload (n := 35) S dX4_two_33 rfl rfl ?_
            refine ks_iconst (n := 36) S dX4_two_35 rfl (by unfold iv; decide) ?_
            refine ks_icmp_gt (n := 39) (tgt := 79) S dX4_two_36 rfl rfl (fun h36 => ?_) (fun h36 => ?_)
            · omega
            refine ks_aload_n (n := 40) S dX4_two_39 rfl rfl ?_
            refine ks_iload_n (n := 41) S dX4_two_40 rfl rfl ?_
            refine ks_iload_n (n := 42) S dX4_two_41 rfl rfl ?_
            refine ks_iload (n := 44) S dX4_two_42 rfl rfl ?_
            refine ks_v3z (n := 47) S dX4_two_44 rfl ml_X4_202 ym_X4_firstIsContent (ev_X4_firstIsContent hM (hC.fr F) ht4 (by omega)) (by decide) rfl (Nat.le_of_ble_eq_true rfl) (fun r44 τ44 q44 => ?_)
            obtain ⟨q1, q2⟩ := q44
            have F := F.tr q2
            cases q1
            refine ks_if_eq (n := 50) (tgt := 73) S dX4_two_47 rfl rfl (fun h47 => ?_) (fun h47 => ?_)
            · skip
              simp only [bi_eq, bi_ne, Classical.not_not] at h47
              refine ks_iinc (n := 76) S dX4_two_73 rfl rfl (by omega) (L' := fun y => [some (kr 0), some (ki a), some (ki b), some (ki d), some (ki (0)), some (ki (1)), some (ki y)]) (fun _ => rfl) (fun v6_73 hv73 => ?_)
              obtain rfl : v6_73 = 2 := by omega
              refine ks_goto (n := 33) S dX4_two_76 rfl ?_
              refine ks_iload (n := 35) S dX4_two_33 rfl rfl ?_
              refine ks_iconst (n := 36) S dX4_two_35 rfl (by unfold iv; decide) ?_
              refine ks_icmp_gt (n := 39) (tgt := 79) S dX4_two_36 rfl rfl (fun h36 => ?_) (fun h36 => ?_)
              rotate_left
              · omega
              refine ks_iinc (n := 82) S dX4_two_79 rfl rfl (by omega) (L' := fun y => [some (kr 0), some (ki a), some (ki b), some (ki d), some (ki (0)), some (ki y), some (ki (2))]) (fun _ => rfl) (fun v5_79 hv79 => ?_)
              obtain rfl : v5_79 = 2 := by omega
              refine ks_goto (n := 24) S dX4_two_82 rfl ?_
              refine ks_iload (n := 26) S dX4_two_24 rfl rfl ?_
              refine ks_iconst (n := 27) S dX4_two_26 rfl (by unfold iv; decide) ?_
              refine ks_icmp_gt (n := 30) (tgt := 85) S dX4_two_27 rfl rfl (fun h27 => ?_) (fun h27 => ?_)
              rotate_left
              · omega
              refine ks_bipush (n := 87) S dX4_two_85 rfl (by unfold iv; decide) ?_
              refine ks_iret S dX4_two_87 ?_
              exact qc_t hC F (by unfold A_two; rw [hw4, if_neg (by decide)]; refine congrArg (fun z => (z, M)) ?_; unfold m_P; (repeat' split) <;> omega)
            · skip
              simp only [bi_eq, bi_ne, Classical.not_not] at h47
              refine ks_aload_n (n := 51) S dX4_two_50 rfl rfl ?_
              refine ks_iload_n (n := 52) S dX4_two_51 rfl rfl ?_
              refine ks_iload_n (n := 53) S dX4_two_52 rfl rfl ?_
              refine ks_iload_n (n := 54) S dX4_two_53 rfl rfl ?_
              refine ks_iload (n := 56) S dX4_two_54 rfl rfl ?_
              refine ks_iload (n := 58) S dX4_two_56 rfl rfl ?_
              refine ks_v5z (n := 61) S dX4_two_58 rfl ml_X4_206 ym_X4_secondIsContent (ev_X4_secondIsContent hM (hC.fr F) ht4 (by omega) (by omega)) (by decide) rfl (Nat.le_of_ble_eq_true rfl) (fun r58 τ58 q58 => ?_)
              obtain ⟨q1, q2⟩ := q58
              have F := F.tr q2
              cases q1
              refine ks_if_eq (n := 64) (tgt := 73) S dX4_two_61 rfl rfl (fun h61 => ?_) (fun h61 => ?_)
              · skip
                simp only [bi_eq, bi_ne, Classical.not_not] at h61
                refine ks_iinc (n := 76) S dX4_two_73 rfl rfl (by omega) (L' := fun y => [some (kr 0), some (ki a), some (ki b), some (ki d), some (ki (0)), some (ki (1)), some (ki y)]) (fun _ => rfl) (fun v6_73 hv73 => ?_)
                obtain rfl : v6_73 = 2 := by omega
                refine ks_goto (n := 33) S dX4_two_76 rfl ?_
                refine ks_iload (n := 35) S dX4_two_33 rfl rfl ?_
                refine ks_iconst (n := 36) S dX4_two_35 rfl (by unfold iv; decide) ?_
                refine ks_icmp_gt (n := 39) (tgt := 79) S dX4_two_36 rfl rfl (fun h36 => ?_) (fun h36 => ?_)
                rotate_left
                · omega
                refine ks_iinc (n := 82) S dX4_two_79 rfl rfl (by omega) (L' := fun y => [some (kr 0), some (ki a), some (ki b), some (ki d), some (ki (0)), some (ki y), some (ki (2))]) (fun _ => rfl) (fun v5_79 hv79 => ?_)
                obtain rfl : v5_79 = 2 := by omega
                refine ks_goto (n := 24) S dX4_two_82 rfl ?_
                refine ks_iload (n := 26) S dX4_two_24 rfl rfl ?_
                refine ks_iconst (n := 27) S dX4_two_26 rfl (by unfold iv; decide) ?_
                refine ks_icmp_gt (n := 30) (tgt := 85) S dX4_two_27 rfl rfl (fun h27 => ?_) (fun h27 => ?_)
                rotate_left
                · omega
                refine ks_bipush (n := 87) S dX4_two_85 rfl (by unfold iv; decide) ?_
                refine ks_iret S dX4_two_87 ?_
                exact qc_t hC F (by unfold A_two; rw [hw4, if_neg (by decide)]; refine congrArg (fun z => (z, M)) ?_; unfold m_P; (repeat' split) <;> omega)
              · skip
                simp only [bi_eq, bi_ne, Classical.not_not] at h61
                refine ks_bipush (n := 66) S dX4_two_64 rfl (by unfold iv; decide) ?_
                refine ks_iload (n := 68) S dX4_two_66 rfl rfl ?_
                refine ks_imul (n := 69) S dX4_two_68 rfl (by omega) ?_
                refine ks_iload (n := 71) S dX4_two_69 rfl rfl ?_
                refine ks_iadd (n := 72) S dX4_two_71 rfl (by omega) ?_
                refine ks_iret S dX4_two_72 ?_
                exact qc_t hC F (by unfold A_two; rw [hw4, if_neg (by decide)]; refine congrArg (fun z => (z, M)) ?_; unfold m_P; (repeat' split) <;> omega)
          · skip
            simp only [bi_eq, bi_ne, Classical.not_not] at h61
            refine ks_bipush (n := 66) S dX4_two_64 rfl (by unfold iv; decide) ?_
            refine ks_iload (n := 68) S dX4_two_66 rfl rfl ?_
            refine ks_imul (n := 69) S dX4_two_68 rfl (by omega) ?_
            refine ks_iload (n := 71) S dX4_two_69 rfl rfl ?_
            refine ks_iadd (n := 72) S dX4_two_71 rfl (by omega) ?_
            refine ks_iret S dX4_two_72 ?_
            exact qc_t hC F (by unfold A_two; rw [hw4, if_neg (by decide)]; refine congrArg (fun z => (z, M)) ?_; unfold m_P; (repeat' split) <;> omega)
      · skip
        simp only [bi_eq, bi_ne, Classical.not_not] at h47
        refine ks_aload_n (n := 51) S dX4_two_50 rfl rfl ?_
        refine ks_iload_n (n := 52) S dX4_two_51 rfl rfl ?_
        refine ks_iload_n (n := 53) S dX4_two_52 rfl rfl ?_
        refine ks_iload_n (n := 54) S dX4_two_53 rfl rfl ?_
        refine ks_iload (n := 56) S dX4_two_54 rfl rfl ?_
        refine ks_iload (n := 58) S dX4_two_56 rfl rfl ?_
        refine ks_v5z (n := 61) S dX4_two_58 rfl ml_X4_206 ym_X4_secondIsContent (ev_X4_secondIsContent hM (hC.fr F) ht4 (by omega) (by omega)) (by decide) rfl (Nat.le_of_ble_eq_true rfl) (fun r58 τ58 q58 => ?_)
        obtain ⟨q1, q2⟩ := q58
        have F := F.tr q2
        cases q1
        refine ks_if_eq (n := 64) (tgt := 73) S dX4_two_61 rfl rfl (fun h61 => ?_) (fun h61 => ?_)
        · skip
          simp only [bi_eq, bi_ne, Classical.not_not] at h61
          refine ks_iinc (n := 76) S dX4_two_73 rfl rfl (by omega) (L' := fun y => [some (kr 0), some (ki a), some (ki b), some (ki d), some (ki (0)), some (ki (0)), some (ki y)]) (fun _ => rfl) (fun v6_73 hv73 => ?_)
          obtain rfl : v6_73 = 2 := by omega
          refine ks_goto (n := 33) S dX4_two_76 rfl ?_
          refine ks_iload (n := 35) S dX4_two_33 rfl rfl ?_
          refine ks_iconst (n := 36) S dX4_two_35 rfl (by unfold iv; decide) ?_
          refine ks_icmp_gt (n := 39) (tgt := 79) S dX4_two_36 rfl rfl (fun h36 => ?_) (fun h36 => ?_)
          rotate_left
          · omega
          refine ks_iinc (n := 82) S dX4_two_79 rfl rfl (by omega) (L' := fun y => [some (kr 0), some (ki a), some (ki b), some (ki d), some (ki (0)), some (ki y), some (ki (2))]) (fun _ => rfl) (fun v5_79 hv79 => ?_)
          obtain rfl : v5_79 = 1 := by omega
          refine ks_goto (n := 24) S dX4_two_82 rfl ?_
          refine ks_iload (n := 26) S dX4_two_24 rfl rfl ?_
          refine ks_iconst (n := 27) S dX4_two_26 rfl (by unfold iv; decide) ?_
          refine ks_icmp_gt (n := 30) (tgt := 85) S dX4_two_27 rfl rfl (fun h27 => ?_) (fun h27 => ?_)
          · omega
          refine ks_iconst (n := 31) S dX4_two_30 rfl (by unfold iv; decide) ?_
          refine ks_istore (n := 33) S dX4_two_31 rfl (L' := fun y => [some (kr 0), some (ki a), some (ki b), some (ki d), some (ki (0)), some (ki (1)), some (ki y)]) (Nat.le_of_ble_eq_true rfl) (fun _ => rfl) (fun v6_31 hv31 => ?_)
          obtain rfl : v6_31 = 0 := by omega
          refine ks_iload (n := 35) S dX4_two_33 rfl rfl ?_
          refine ks_iconst (n := 36) S dX4_two_35 rfl (by unfold iv; decide) ?_
          refine ks_icmp_gt (n := 39) (tgt := 79) S dX4_two_36 rfl rfl (fun h36 => ?_) (fun h36 => ?_)
          · omega
          refine ks_aload_n (n := 40) S dX4_two_39 rfl rfl ?_
          refine ks_iload_n (n := 41) S dX4_two_40 rfl rfl ?_
          refine ks_iload_n (n := 42) S dX4_two_41 rfl rfl ?_
          refine ks_iload (n := 44) S dX4_two_42 rfl rfl ?_
          refine ks_v3z (n := 47) S dX4_two_44 rfl ml_X4_202 ym_X4_firstIsContent (ev_X4_firstIsContent hM (hC.fr F) ht4 (by omega)) (by decide) rfl (Nat.le_of_ble_eq_true rfl) (fun r44 τ44 q44 => ?_)
          obtain ⟨q1, q2⟩ := q44
          have F := F.tr q2
          cases q1
          refine ks_if_eq (n := 50) (tgt := 73) S dX4_two_47 rfl rfl (fun h47 => ?_) (fun h47 => ?_)
          · skip
            simp only [bi_eq, bi_ne, Classical.not_not] at h47
            refine ks_iinc (n := 76) S dX4_two_73 rfl rfl (by omega) (L' := fun y => [some (kr 0), some (ki a), some (ki b), some (ki d), some (ki (0)), some (ki (1)), some (ki y)]) (fun _ => rfl) (fun v6_73 hv73 => ?_)
            obtain rfl : v6_73 = 1 := by omega
            refine ks_goto (n := 33) S dX4_two_76 rfl ?_
            refine ks_iload (n := 35) S dX4_two_33 rfl rfl ?_
            refine ks_iconst (n := 36) S dX4_two_35 rfl (by unfold iv; decide) ?_
            refine ks_icmp_gt (n := 39) (tgt := 79) S dX4_two_36 rfl rfl (fun h36 => ?_) (fun h36 => ?_)
            · omega
            refine ks_aload_n (n := 40) S dX4_two_39 rfl rfl ?_
            refine ks_iload_n (n := 41) S dX4_two_40 rfl rfl ?_
            refine ks_iload_n (n := 42) S dX4_two_41 rfl rfl ?_
            refine ks_iload (n := 44) S dX4_two_42 rfl rfl ?_
            refine ks_v3z (n := 47) S dX4_two_44 rfl ml_X4_202 ym_X4_firstIsContent (ev_X4_firstIsContent hM (hC.fr F) ht4 (by omega)) (by decide) rfl (Nat.le_of_ble_eq_true rfl) (fun r44 τ44 q44 => ?_)
            obtain ⟨q1, q2⟩ := q44
            have F := F.tr q2
            cases q1
            refine ks_if_eq (n := 50) (tgt := 73) S dX4_two_47 rfl rfl (fun h47 => ?_) (fun h47 => ?_)
            · skip
              simp only [bi_eq, bi_ne, Classical.not_not] at h47
              refine ks_iinc (n := 76) S dX4_two_73 rfl rfl (by omega) (L' := fun y => [some (kr 0), some (ki a), some (ki b), some (ki d), some (ki (0)), some (ki (1)), some (ki y)]) (fun _ => rfl) (fun v6_73 hv73 => ?_)
              obtain rfl : v6_73 = 2 := by omega
              refine ks_goto (n := 33) S dX4_two_76 rfl ?_
              refine ks_iload (n := 35) S dX4_two_33 rfl rfl ?_
              refine ks_iconst (n := 36) S dX4_two_35 rfl (by unfold iv; decide) ?_
              refine ks_icmp_gt (n := 39) (tgt := 79) S dX4_two_36 rfl rfl (fun h36 => ?_) (fun h36 => ?_)
              rotate_left
              · omega
              refine ks_iinc (n := 82) S dX4_two_79 rfl rfl (by omega) (L' := fun y => [some (kr 0), some (ki a), some (ki b), some (ki d), some (ki (0)), some (ki y), some (ki (2))]) (fun _ => rfl) (fun v5_79 hv79 => ?_)
              obtain rfl : v5_79 = 2 := by omega
              refine ks_goto (n := 24) S dX4_two_82 rfl ?_
              refine ks_iload (n := 26) S dX4_two_24 rfl rfl ?_
              refine ks_iconst (n := 27) S dX4_two_26 rfl (by unfold iv; decide) ?_
              refine ks_icmp_gt (n := 30) (tgt := 85) S dX4_two_27 rfl rfl (fun h27 => ?_) (fun h27 => ?_)
              rotate_left
              · omega
              refine ks_bipush (n := 87) S dX4_two_85 rfl (by unfold iv; decide) ?_
              refine ks_iret S dX4_two_87 ?_
              exact qc_t hC F (by unfold A_two; rw [hw4, if_neg (by decide)]; refine congrArg (fun z => (z, M)) ?_; unfold m_P; (repeat' split) <;> omega)
            · skip
              simp only [bi_eq, bi_ne, Classical.not_not] at h47
              refine ks_aload_n (n := 51) S dX4_two_50 rfl rfl ?_
              refine ks_iload_n (n := 52) S dX4_two_51 rfl rfl ?_
              refine ks_iload_n (n := 53) S dX4_two_52 rfl rfl ?_
              refine ks_iload_n (n := 54) S dX4_two_53 rfl rfl ?_
              refine ks_iload (n := 56) S dX4_two_54 rfl rfl ?_
              refine ks_iload (n := 58) S dX4_two_56 rfl rfl ?_
              refine ks_v5z (n := 61) S dX4_two_58 rfl ml_X4_206 ym_X4_secondIsContent (ev_X4_secondIsContent hM (hC.fr F) ht4 (by omega) (by omega)) (by decide) rfl (Nat.le_of_ble_eq_true rfl) (fun r58 τ58 q58 => ?_)
              obtain ⟨q1, q2⟩ := q58
              have F := F.tr q2
              cases q1
              refine ks_if_eq (n := 64) (tgt := 73) S dX4_two_61 rfl rfl (fun h61 => ?_) (fun h61 => ?_)
              · skip
                simp only [bi_eq, bi_ne, Classical.not_not] at h61
                refine ks_iinc (n := 76) S dX4_two_73 rfl rfl (by omega) (L' := fun y => [some (kr 0), some (ki a), some (ki b), some (ki d), some (ki (0)), some (ki (1)), some (ki y)]) (fun _ => rfl) (fun v6_73 hv73 => ?_)
                obtain rfl : v6_73 = 2 := by omega
                refine ks_goto (n := 33) S dX4_two_76 rfl ?_
                refine ks_iload (n := 35) S dX4_two_33 rfl rfl ?_
                refine ks_iconst (n := 36) S dX4_two_35 rfl (by unfold iv; decide) ?_
                refine ks_icmp_gt (n := 39) (tgt := 79) S dX4_two_36 rfl rfl (fun h36 => ?_) (fun h36 => ?_)
                rotate_left
                · omega
                refine ks_iinc (n := 82) S dX4_two_79 rfl rfl (by omega) (L' := fun y => [some (kr 0), some (ki a), some (ki b), some (ki d), some (ki (0)), some (ki y), some (ki (2))]) (fun _ => rfl) (fun v5_79 hv79 => ?_)
                obtain rfl : v5_79 = 2 := by omega
                refine ks_goto (n := 24) S dX4_two_82 rfl ?_
                refine ks_iload (n := 26) S dX4_two_24 rfl rfl ?_
                refine ks_iconst (n := 27) S dX4_two_26 rfl (by unfold iv; decide) ?_
                refine ks_icmp_gt (n := 30) (tgt := 85) S dX4_two_27 rfl rfl (fun h27 => ?_) (fun h27 => ?_)
                rotate_left
                · omega
                refine ks_bipush (n := 87) S dX4_two_85 rfl (by unfold iv; decide) ?_
                refine ks_iret S dX4_two_87 ?_
                exact qc_t hC F (by unfold A_two; rw [hw4, if_neg (by decide)]; refine congrArg (fun z => (z, M)) ?_; unfold m_P; (repeat' split) <;> omega)
              · skip
                simp only [bi_eq, bi_ne, Classical.not_not] at h61
                refine ks_bipush (n := 66) S dX4_two_64 rfl (by unfold iv; decide) ?_
                refine ks_iload (n := 68) S dX4_two_66 rfl rfl ?_
                refine ks_imul (n := 69) S dX4_two_68 rfl (by omega) ?_
                refine ks_iload (n := 71) S dX4_two_69 rfl rfl ?_
                refine ks_iadd (n := 72) S dX4_two_71 rfl (by omega) ?_
                refine ks_iret S dX4_two_72 ?_
                exact qc_t hC F (by unfold A_two; rw [hw4, if_neg (by decide)]; refine congrArg (fun z => (z, M)) ?_; unfold m_P; (repeat' split) <;> omega)
          · skip
            simp only [bi_eq, bi_ne, Classical.not_not] at h47
            refine ks_aload_n (n := 51) S dX4_two_50 rfl rfl ?_
            refine ks_iload_n (n := 52) S dX4_two_51 rfl rfl ?_
            refine ks_iload_n (n := 53) S dX4_two_52 rfl rfl ?_
            refine ks_iload_n (n := 54) S dX4_two_53 rfl rfl ?_
            refine ks_iload (n := 56) S dX4_two_54 rfl rfl ?_
            refine ks_iload (n := 58) S dX4_two_56 rfl rfl ?_
            refine ks_v5z (n := 61) S dX4_two_58 rfl ml_X4_206 ym_X4_secondIsContent (ev_X4_secondIsContent hM (hC.fr F) ht4 (by omega) (by omega)) (by decide) rfl (Nat.le_of_ble_eq_true rfl) (fun r58 τ58 q58 => ?_)
            obtain ⟨q1, q2⟩ := q58
            have F := F.tr q2
            cases q1
            refine ks_if_eq (n := 64) (tgt := 73) S dX4_two_61 rfl rfl (fun h61 => ?_) (fun h61 => ?_)
            · skip
              simp only [bi_eq, bi_ne, Classical.not_not] at h61
              refine ks_iinc (n := 76) S dX4_two_73 rfl rfl (by omega) (L' := fun y => [some (kr 0), some (ki a), some (ki b), some (ki d), some (ki (0)), some (ki (1)), some (ki y)]) (fun _ => rfl) (fun v6_73 hv73 => ?_)
              obtain rfl : v6_73 = 1 := by omega
              refine ks_goto (n := 33) S dX4_two_76 rfl ?_
              refine ks_iload (n := 35) S dX4_two_33 rfl rfl ?_
              refine ks_iconst (n := 36) S dX4_two_35 rfl (by unfold iv; decide) ?_
              refine ks_icmp_gt (n := 39) (tgt := 79) S dX4_two_36 rfl rfl (fun h36 => ?_) (fun h36 => ?_)
              · omega
              refine ks_aload_n (n := 40) S dX4_two_39 rfl rfl ?_
              refine ks_iload_n (n := 41) S dX4_two_40 rfl rfl ?_
              refine ks_iload_n (n := 42) S dX4_two_41 rfl rfl ?_
              refine ks_iload (n := 44) S dX4_two_42 rfl rfl ?_
              refine ks_v3z (n := 47) S dX4_two_44 rfl ml_X4_202 ym_X4_firstIsContent (ev_X4_firstIsContent hM (hC.fr F) ht4 (by omega)) (by decide) rfl (Nat.le_of_ble_eq_true rfl) (fun r44 τ44 q44 => ?_)
              obtain ⟨q1, q2⟩ := q44
              have F := F.tr q2
              cases q1
              refine ks_if_eq (n := 50) (tgt := 73) S dX4_two_47 rfl rfl (fun h47 => ?_) (fun h47 => ?_)
              · skip
                simp only [bi_eq, bi_ne, Classical.not_not] at h47
                refine ks_iinc (n := 76) S dX4_two_73 rfl rfl (by omega) (L' := fun y => [some (kr 0), some (ki a), some (ki b), some (ki d), some (ki (0)), some (ki (1)), some (ki y)]) (fun _ => rfl) (fun v6_73 hv73 => ?_)
                obtain rfl : v6_73 = 2 := by omega
                refine ks_goto (n := 33) S dX4_two_76 rfl ?_
                refine ks_iload (n := 35) S dX4_two_33 rfl rfl ?_
                refine ks_iconst (n := 36) S dX4_two_35 rfl (by unfold iv; decide) ?_
                refine ks_icmp_gt (n := 39) (tgt := 79) S dX4_two_36 rfl rfl (fun h36 => ?_) (fun h36 => ?_)
                rotate_left
                · omega
                refine ks_iinc (n := 82) S dX4_two_79 rfl rfl (by omega) (L' := fun y => [some (kr 0), some (ki a), some (ki b), some (ki d), some (ki (0)), some (ki y), some (ki (2))]) (fun _ => rfl) (fun v5_79 hv79 => ?_)
                obtain rfl : v5_79 = 2 := by omega
                refine ks_goto (n := 24) S dX4_two_82 rfl ?_
                refine ks_iload (n := 26) S dX4_two_24 rfl rfl ?_
                refine ks_iconst (n := 27) S dX4_two_26 rfl (by unfold iv; decide) ?_
                refine ks_icmp_gt (n := 30) (tgt := 85) S dX4_two_27 rfl rfl (fun h27 => ?_) (fun h27 => ?_)
                rotate_left
                · omega
                refine ks_bipush (n := 87) S dX4_two_85 rfl (by unfold iv; decide) ?_
                refine ks_iret S dX4_two_87 ?_
                exact qc_t hC F (by unfold A_two; rw [hw4, if_neg (by decide)]; refine congrArg (fun z => (z, M)) ?_; unfold m_P; (repeat' split) <;> omega)
              · skip
                simp only [bi_eq, bi_ne, Classical.not_not] at h47
                refine ks_aload_n (n := 51) S dX4_two_50 rfl rfl ?_
                refine ks_iload_n (n := 52) S dX4_two_51 rfl rfl ?_
                refine ks_iload_n (n := 53) S dX4_two_52 rfl rfl ?_
                refine ks_iload_n (n := 54) S dX4_two_53 rfl rfl ?_
                refine ks_iload (n := 56) S dX4_two_54 rfl rfl ?_
                refine ks_iload (n := 58) S dX4_two_56 rfl rfl ?_
                refine ks_v5z (n := 61) S dX4_two_58 rfl ml_X4_206 ym_X4_secondIsContent (ev_X4_secondIsContent hM (hC.fr F) ht4 (by omega) (by omega)) (by decide) rfl (Nat.le_of_ble_eq_true rfl) (fun r58 τ58 q58 => ?_)
                obtain ⟨q1, q2⟩ := q58
                have F := F.tr q2
                cases q1
                refine ks_if_eq (n := 64) (tgt := 73) S dX4_two_61 rfl rfl (fun h61 => ?_) (fun h61 => ?_)
                · skip
                  simp only [bi_eq, bi_ne, Classical.not_not] at h61
                  refine ks_iinc (n := 76) S dX4_two_73 rfl rfl (by omega) (L' := fun y => [some (kr 0), some (ki a), some (ki b), some (ki d), some (ki (0)), some (ki (1)), some (ki y)]) (fun _ => rfl) (fun v6_73 hv73 => ?_)
                  obtain rfl : v6_73 = 2 := by omega
                  refine ks_goto (n := 33) S dX4_two_76 rfl ?_
                  refine ks_iload (n := 35) S dX4_two_33 rfl rfl ?_
                  refine ks_iconst (n := 36) S dX4_two_35 rfl (by unfold iv; decide) ?_
                  refine ks_icmp_gt (n := 39) (tgt := 79) S dX4_two_36 rfl rfl (fun h36 => ?_) (fun h36 => ?_)
                  rotate_left
                  · omega
                  refine ks_iinc (n := 82) S dX4_two_79 rfl rfl (by omega) (L' := fun y => [some (kr 0), some (ki a), some (ki b), some (ki d), some (ki (0)), some (ki y), some (ki (2))]) (fun _ => rfl) (fun v5_79 hv79 => ?_)
                  obtain rfl : v5_79 = 2 := by omega
                  refine ks_goto (n := 24) S dX4_two_82 rfl ?_
                  refine ks_iload (n := 26) S dX4_two_24 rfl rfl ?_
                  refine ks_iconst (n := 27) S dX4_two_26 rfl (by unfold iv; decide) ?_
                  refine ks_icmp_gt (n := 30) (tgt := 85) S dX4_two_27 rfl rfl (fun h27 => ?_) (fun h27 => ?_)
                  rotate_left
                  · omega
                  refine ks_bipush (n := 87) S dX4_two_85 rfl (by unfold iv; decide) ?_
                  refine ks_iret S dX4_two_87 ?_
                  exact qc_t hC F (by unfold A_two; rw [hw4, if_neg (by decide)]; refine congrArg (fun z => (z, M)) ?_; unfold m_P; (repeat' split) <;> omega)
                · skip
                  simp only [bi_eq, bi_ne, Classical.not_not] at h61
                  refine ks_bipush (n := 66) S dX4_two_64 rfl (by unfold iv; decide) ?_
                  refine ks_iload (n := 68) S dX4_two_66 rfl rfl ?_
                  refine ks_imul (n := 69) S dX4_two_68 rfl (by omega) ?_
                  refine ks_iload (n := 71) S dX4_two_69 rfl rfl ?_
                  refine ks_iadd (n := 72) S dX4_two_71 rfl (by omega) ?_
                  refine ks_iret S dX4_two_72 ?_
                  exact qc_t hC F (by unfold A_two; rw [hw4, if_neg (by decide)]; refine congrArg (fun z => (z, M)) ?_; unfold m_P; (repeat' split) <;> omega)
            · skip
              simp only [bi_eq, bi_ne, Classical.not_not] at h61
              refine ks_bipush (n := 66) S dX4_two_64 rfl (by unfold iv; decide) ?_
              refine ks_iload (n := 68) S dX4_two_66 rfl rfl ?_
              refine ks_imul (n := 69) S dX4_two_68 rfl (by omega) ?_
              refine ks_iload (n := 71) S dX4_two_69 rfl rfl ?_
              refine ks_iadd (n := 72) S dX4_two_71 rfl (by omega) ?_
              refine ks_iret S dX4_two_72 ?_
              exact qc_t hC F (by unfold A_two; rw [hw4, if_neg (by decide)]; refine congrArg (fun z => (z, M)) ?_; unfold m_P; (repeat' split) <;> omega)
        · skip
          simp only [bi_eq, bi_ne, Classical.not_not] at h61
          refine ks_bipush (n := 66) S dX4_two_64 rfl (by unfold iv; decide) ?_
          refine ks_iload (n := 68) S dX4_two_66 rfl rfl ?_
          refine ks_imul (n := 69) S dX4_two_68 rfl (by omega) ?_
          refine ks_iload (n := 71) S dX4_two_69 rfl rfl ?_
          refine ks_iadd (n := 72) S dX4_two_71 rfl (by omega) ?_
          refine ks_iret S dX4_two_72 ?_
          exact qc_t hC F (by unfold A_two; rw [hw4, if_neg (by decide)]; refine congrArg (fun z => (z, M)) ?_; unfold m_P; (repeat' split) <;> omega)
    · skip
      simp only [bi_eq, bi_ne, Classical.not_not] at h47
      refine ks_aload_n (n := 51) S dX4_two_50 rfl rfl ?_
      refine ks_iload_n (n := 52) S dX4_two_51 rfl rfl ?_
      refine ks_iload_n (n := 53) S dX4_two_52 rfl rfl ?_
      refine ks_iload_n (n := 54) S dX4_two_53 rfl rfl ?_
      refine ks_iload (n := 56) S dX4_two_54 rfl rfl ?_
      refine ks_iload (n := 58) S dX4_two_56 rfl rfl ?_
      refine ks_v5z (n := 61) S dX4_two_58 rfl ml_X4_206 ym_X4_secondIsContent (ev_X4_secondIsContent hM (hC.fr F) ht4 (by omega) (by omega)) (by decide) rfl (Nat.le_of_ble_eq_true rfl) (fun r58 τ58 q58 => ?_)
      obtain ⟨q1, q2⟩ := q58
      have F := F.tr q2
      cases q1
      refine ks_if_eq (n := 64) (tgt := 73) S dX4_two_61 rfl rfl (fun h61 => ?_) (fun h61 => ?_)
      · skip
        simp only [bi_eq, bi_ne, Classical.not_not] at h61
        refine ks_iinc (n := 76) S dX4_two_73 rfl rfl (by omega) (L' := fun y => [some (kr 0), some (ki a), some (ki b), some (ki d), some (ki (0)), some (ki (0)), some (ki y)]) (fun _ => rfl) (fun v6_73 hv73 => ?_)
        obtain rfl : v6_73 = 1 := by omega
        refine ks_goto (n := 33) S dX4_two_76 rfl ?_
        refine ks_iload (n := 35) S dX4_two_33 rfl rfl ?_
        refine ks_iconst (n := 36) S dX4_two_35 rfl (by unfold iv; decide) ?_
        refine ks_icmp_gt (n := 39) (tgt := 79) S dX4_two_36 rfl rfl (fun h36 => ?_) (fun h36 => ?_)
        · omega
        refine ks_aload_n (n := 40) S dX4_two_39 rfl rfl ?_
        refine ks_iload_n (n := 41) S dX4_two_40 rfl rfl ?_
        refine ks_iload_n (n := 42) S dX4_two_41 rfl rfl ?_
        refine ks_iload (n := 44) S dX4_two_42 rfl rfl ?_
        refine ks_v3z (n := 47) S dX4_two_44 rfl ml_X4_202 ym_X4_firstIsContent (ev_X4_firstIsContent hM (hC.fr F) ht4 (by omega)) (by decide) rfl (Nat.le_of_ble_eq_true rfl) (fun r44 τ44 q44 => ?_)
        obtain ⟨q1, q2⟩ := q44
        have F := F.tr q2
        cases q1
        refine ks_if_eq (n := 50) (tgt := 73) S dX4_two_47 rfl rfl (fun h47 => ?_) (fun h47 => ?_)
        · skip
          simp only [bi_eq, bi_ne, Classical.not_not] at h47
          refine ks_iinc (n := 76) S dX4_two_73 rfl rfl (by omega) (L' := fun y => [some (kr 0), some (ki a), some (ki b), some (ki d), some (ki (0)), some (ki (0)), some (ki y)]) (fun _ => rfl) (fun v6_73 hv73 => ?_)
          obtain rfl : v6_73 = 2 := by omega
          refine ks_goto (n := 33) S dX4_two_76 rfl ?_
          refine ks_iload (n := 35) S dX4_two_33 rfl rfl ?_
          refine ks_iconst (n := 36) S dX4_two_35 rfl (by unfold iv; decide) ?_
          refine ks_icmp_gt (n := 39) (tgt := 79) S dX4_two_36 rfl rfl (fun h36 => ?_) (fun h36 => ?_)
          rotate_left
          · omega
          refine ks_iinc (n := 82) S dX4_two_79 rfl rfl (by omega) (L' := fun y => [some (kr 0), some (ki a), some (ki b), some (ki d), some (ki (0)), some (ki y), some (ki (2))]) (fun _ => rfl) (fun v5_79 hv79 => ?_)
          obtain rfl : v5_79 = 1 := by omega
          refine ks_goto (n := 24) S dX4_two_82 rfl ?_
          refine ks_iload (n := 26) S dX4_two_24 rfl rfl ?_
          refine ks_iconst (n := 27) S dX4_two_26 rfl (by unfold iv; decide) ?_
          refine ks_icmp_gt (n := 30) (tgt := 85) S dX4_two_27 rfl rfl (fun h27 => ?_) (fun h27 => ?_)
          · omega
          refine ks_iconst (n := 31) S dX4_two_30 rfl (by unfold iv; decide) ?_
          refine ks_istore (n := 33) S dX4_two_31 rfl (L' := fun y => [some (kr 0), some (ki a), some (ki b), some (ki d), some (ki (0)), some (ki (1)), some (ki y)]) (Nat.le_of_ble_eq_true rfl) (fun _ => rfl) (fun v6_31 hv31 => ?_)
          obtain rfl : v6_31 = 0 := by omega
          refine ks_iload (n := 35) S dX4_two_33 rfl rfl ?_
          refine ks_iconst (n := 36) S dX4_two_35 rfl (by unfold iv; decide) ?_
          refine ks_icmp_gt (n := 39) (tgt := 79) S dX4_two_36 rfl rfl (fun h36 => ?_) (fun h36 => ?_)
          · omega
          refine ks_aload_n (n := 40) S dX4_two_39 rfl rfl ?_
          refine ks_iload_n (n := 41) S dX4_two_40 rfl rfl ?_
          refine ks_iload_n (n := 42) S dX4_two_41 rfl rfl ?_
          refine ks_iload (n := 44) S dX4_two_42 rfl rfl ?_
          refine ks_v3z (n := 47) S dX4_two_44 rfl ml_X4_202 ym_X4_firstIsContent (ev_X4_firstIsContent hM (hC.fr F) ht4 (by omega)) (by decide) rfl (Nat.le_of_ble_eq_true rfl) (fun r44 τ44 q44 => ?_)
          obtain ⟨q1, q2⟩ := q44
          have F := F.tr q2
          cases q1
          refine ks_if_eq (n := 50) (tgt := 73) S dX4_two_47 rfl rfl (fun h47 => ?_) (fun h47 => ?_)
          · skip
            simp only [bi_eq, bi_ne, Classical.not_not] at h47
            refine ks_iinc (n := 76) S dX4_two_73 rfl rfl (by omega) (L' := fun y => [some (kr 0), some (ki a), some (ki b), some (ki d), some (ki (0)), some (ki (1)), some (ki y)]) (fun _ => rfl) (fun v6_73 hv73 => ?_)
            obtain rfl : v6_73 = 1 := by omega
            refine ks_goto (n := 33) S dX4_two_76 rfl ?_
            refine ks_iload (n := 35) S dX4_two_33 rfl rfl ?_
            refine ks_iconst (n := 36) S dX4_two_35 rfl (by unfold iv; decide) ?_
            refine ks_icmp_gt (n := 39) (tgt := 79) S dX4_two_36 rfl rfl (fun h36 => ?_) (fun h36 => ?_)
            · omega
            refine ks_aload_n (n := 40) S dX4_two_39 rfl rfl ?_
            refine ks_iload_n (n := 41) S dX4_two_40 rfl rfl ?_
            refine ks_iload_n (n := 42) S dX4_two_41 rfl rfl ?_
            refine ks_iload (n := 44) S dX4_two_42 rfl rfl ?_
            refine ks_v3z (n := 47) S dX4_two_44 rfl ml_X4_202 ym_X4_firstIsContent (ev_X4_firstIsContent hM (hC.fr F) ht4 (by omega)) (by decide) rfl (Nat.le_of_ble_eq_true rfl) (fun r44 τ44 q44 => ?_)
            obtain ⟨q1, q2⟩ := q44
            have F := F.tr q2
            cases q1
            refine ks_if_eq (n := 50) (tgt := 73) S dX4_two_47 rfl rfl (fun h47 => ?_) (fun h47 => ?_)
            · skip
              simp only [bi_eq, bi_ne, Classical.not_not] at h47
              refine ks_iinc (n := 76) S dX4_two_73 rfl rfl (by omega) (L' := fun y => [some (kr 0), some (ki a), some (ki b), some (ki d), some (ki (0)), some (ki (1)), some (ki y)]) (fun _ => rfl) (fun v6_73 hv73 => ?_)
              obtain rfl : v6_73 = 2 := by omega
              refine ks_goto (n := 33) S dX4_two_76 rfl ?_
              refine ks_iload (n := 35) S dX4_two_33 rfl rfl ?_
              refine ks_iconst (n := 36) S dX4_two_35 rfl (by unfold iv; decide) ?_
              refine ks_icmp_gt (n := 39) (tgt := 79) S dX4_two_36 rfl rfl (fun h36 => ?_) (fun h36 => ?_)
              rotate_left
              · omega
              refine ks_iinc (n := 82) S dX4_two_79 rfl rfl (by omega) (L' := fun y => [some (kr 0), some (ki a), some (ki b), some (ki d), some (ki (0)), some (ki y), some (ki (2))]) (fun _ => rfl) (fun v5_79 hv79 => ?_)
              obtain rfl : v5_79 = 2 := by omega
              refine ks_goto (n := 24) S dX4_two_82 rfl ?_
              refine ks_iload (n := 26) S dX4_two_24 rfl rfl ?_
              refine ks_iconst (n := 27) S dX4_two_26 rfl (by unfold iv; decide) ?_
              refine ks_icmp_gt (n := 30) (tgt := 85) S dX4_two_27 rfl rfl (fun h27 => ?_) (fun h27 => ?_)
              rotate_left
              · omega
              refine ks_bipush (n := 87) S dX4_two_85 rfl (by unfold iv; decide) ?_
              refine ks_iret S dX4_two_87 ?_
              exact qc_t hC F (by unfold A_two; rw [hw4, if_neg (by decide)]; refine congrArg (fun z => (z, M)) ?_; unfold m_P; (repeat' split) <;> omega)
            · skip
              simp only [bi_eq, bi_ne, Classical.not_not] at h47
              refine ks_aload_n (n := 51) S dX4_two_50 rfl rfl ?_
              refine ks_iload_n (n := 52) S dX4_two_51 rfl rfl ?_
              refine ks_iload_n (n := 53) S dX4_two_52 rfl rfl ?_
              refine ks_iload_n (n := 54) S dX4_two_53 rfl rfl ?_
              refine ks_iload (n := 56) S dX4_two_54 rfl rfl ?_
              refine ks_iload (n := 58) S dX4_two_56 rfl rfl ?_
              refine ks_v5z (n := 61) S dX4_two_58 rfl ml_X4_206 ym_X4_secondIsContent (ev_X4_secondIsContent hM (hC.fr F) ht4 (by omega) (by omega)) (by decide) rfl (Nat.le_of_ble_eq_true rfl) (fun r58 τ58 q58 => ?_)
              obtain ⟨q1, q2⟩ := q58
              have F := F.tr q2
              cases q1
              refine ks_if_eq (n := 64) (tgt := 73) S dX4_two_61 rfl rfl (fun h61 => ?_) (fun h61 => ?_)
              · skip
                simp only [bi_eq, bi_ne, Classical.not_not] at h61
                refine ks_iinc (n := 76) S dX4_two_73 rfl rfl (by omega) (L' := fun y => [some (kr 0), some (ki a), some (ki b), some (ki d), some (ki (0)), some (ki (1)), some (ki y)]) (fun _ => rfl) (fun v6_73 hv73 => ?_)
                obtain rfl : v6_73 = 2 := by omega
                refine ks_goto (n := 33) S dX4_two_76 rfl ?_
                refine ks_iload (n := 35) S dX4_two_33 rfl rfl ?_
                refine ks_iconst (n := 36) S dX4_two_35 rfl (by unfold iv; decide) ?_
                refine ks_icmp_gt (n := 39) (tgt := 79) S dX4_two_36 rfl rfl (fun h36 => ?_) (fun h36 => ?_)
                rotate_left
                · omega
                refine ks_iinc (n := 82) S dX4_two_79 rfl rfl (by omega) (L' := fun y => [some (kr 0), some (ki a), some (ki b), some (ki d), some (ki (0)), some (ki y), some (ki (2))]) (fun _ => rfl) (fun v5_79 hv79 => ?_)
                obtain rfl : v5_79 = 2 := by omega
                refine ks_goto (n := 24) S dX4_two_82 rfl ?_
                refine ks_iload (n := 26) S dX4_two_24 rfl rfl ?_
                refine ks_iconst (n := 27) S dX4_two_26 rfl (by unfold iv; decide) ?_
                refine ks_icmp_gt (n := 30) (tgt := 85) S dX4_two_27 rfl rfl (fun h27 => ?_) (fun h27 => ?_)
                rotate_left
                · omega
                refine ks_bipush (n := 87) S dX4_two_85 rfl (by unfold iv; decide) ?_
                refine ks_iret S dX4_two_87 ?_
                exact qc_t hC F (by unfold A_two; rw [hw4, if_neg (by decide)]; refine congrArg (fun z => (z, M)) ?_; unfold m_P; (repeat' split) <;> omega)
              · skip
                simp only [bi_eq, bi_ne, Classical.not_not] at h61
                refine ks_bipush (n := 66) S dX4_two_64 rfl (by unfold iv; decide) ?_
                refine ks_iload (n := 68) S dX4_two_66 rfl rfl ?_
                refine ks_imul (n := 69) S dX4_two_68 rfl (by omega) ?_
                refine ks_iload (n := 71) S dX4_two_69 rfl rfl ?_
                refine ks_iadd (n := 72) S dX4_two_71 rfl (by omega) ?_
                refine ks_iret S dX4_two_72 ?_
                exact qc_t hC F (by unfold A_two; rw [hw4, if_neg (by decide)]; refine congrArg (fun z => (z, M)) ?_; unfold m_P; (repeat' split) <;> omega)
          · skip
            simp only [bi_eq, bi_ne, Classical.not_not] at h47
            refine ks_aload_n (n := 51) S dX4_two_50 rfl rfl ?_
            refine ks_iload_n (n := 52) S dX4_two_51 rfl rfl ?_
            refine ks_iload_n (n := 53) S dX4_two_52 rfl rfl ?_
            refine ks_iload_n (n := 54) S dX4_two_53 rfl rfl ?_
            refine ks_iload (n := 56) S dX4_two_54 rfl rfl ?_
            refine ks_iload (n := 58) S dX4_two_56 rfl rfl ?_
            refine ks_v5z (n := 61) S dX4_two_58 rfl ml_X4_206 ym_X4_secondIsContent (ev_X4_secondIsContent hM (hC.fr F) ht4 (by omega) (by omega)) (by decide) rfl (Nat.le_of_ble_eq_true rfl) (fun r58 τ58 q58 => ?_)
            obtain ⟨q1, q2⟩ := q58
            have F := F.tr q2
            cases q1
            refine ks_if_eq (n := 64) (tgt := 73) S dX4_two_61 rfl rfl (fun h61 => ?_) (fun h61 => ?_)
            · skip
              simp only [bi_eq, bi_ne, Classical.not_not] at h61
              refine ks_iinc (n := 76) S dX4_two_73 rfl rfl (by omega) (L' := fun y => [some (kr 0), some (ki a), some (ki b), some (ki d), some (ki (0)), some (ki (1)), some (ki y)]) (fun _ => rfl) (fun v6_73 hv73 => ?_)
              obtain rfl : v6_73 = 1 := by omega
              refine ks_goto (n := 33) S dX4_two_76 rfl ?_
              refine ks_iload (n := 35) S dX4_two_33 rfl rfl ?_
              refine ks_iconst (n := 36) S dX4_two_35 rfl (by unfold iv; decide) ?_
              refine ks_icmp_gt (n := 39) (tgt := 79) S dX4_two_36 rfl rfl (fun h36 => ?_) (fun h36 => ?_)
              · omega
              refine ks_aload_n (n := 40) S dX4_two_39 rfl rfl ?_
              refine ks_iload_n (n := 41) S dX4_two_40 rfl rfl ?_
              refine ks_iload_n (n := 42) S dX4_two_41 rfl rfl ?_
              refine ks_iload (n := 44) S dX4_two_42 rfl rfl ?_
              refine ks_v3z (n := 47) S dX4_two_44 rfl ml_X4_202 ym_X4_firstIsContent (ev_X4_firstIsContent hM (hC.fr F) ht4 (by omega)) (by decide) rfl (Nat.le_of_ble_eq_true rfl) (fun r44 τ44 q44 => ?_)
              obtain ⟨q1, q2⟩ := q44
              have F := F.tr q2
              cases q1
              refine ks_if_eq (n := 50) (tgt := 73) S dX4_two_47 rfl rfl (fun h47 => ?_) (fun h47 => ?_)
              · skip
                simp only [bi_eq, bi_ne, Classical.not_not] at h47
                refine ks_iinc (n := 76) S dX4_two_73 rfl rfl (by omega) (L' := fun y => [some (kr 0), some (ki a), some (ki b), some (ki d), some (ki (0)), some (ki (1)), some (ki y)]) (fun _ => rfl) (fun v6_73 hv73 => ?_)
                obtain rfl : v6_73 = 2 := by omega
                refine ks_goto (n := 33) S dX4_two_76 rfl ?_
                refine ks_iload (n := 35) S dX4_two_33 rfl rfl ?_
                refine ks_iconst (n := 36) S dX4_two_35 rfl (by unfold iv; decide) ?_
                refine ks_icmp_gt (n := 39) (tgt := 79) S dX4_two_36 rfl rfl (fun h36 => ?_) (fun h36 => ?_)
                rotate_left
                · omega
                refine ks_iinc (n := 82) S dX4_two_79 rfl rfl (by omega) (L' := fun y => [some (kr 0), some (ki a), some (ki b), some (ki d), some (ki (0)), some (ki y), some (ki (2))]) (fun _ => rfl) (fun v5_79 hv79 => ?_)
                obtain rfl : v5_79 = 2 := by omega
                refine ks_goto (n := 24) S dX4_two_82 rfl ?_
                refine ks_iload (n := 26) S dX4_two_24 rfl rfl ?_
                refine ks_iconst (n := 27) S dX4_two_26 rfl (by unfold iv; decide) ?_
                refine ks_icmp_gt (n := 30) (tgt := 85) S dX4_two_27 rfl rfl (fun h27 => ?_) (fun h27 => ?_)
                rotate_left
                · omega
                refine ks_bipush (n := 87) S dX4_two_85 rfl (by unfold iv; decide) ?_
                refine ks_iret S dX4_two_87 ?_
                exact qc_t hC F (by unfold A_two; rw [hw4, if_neg (by decide)]; refine congrArg (fun z => (z, M)) ?_; unfold m_P; (repeat' split) <;> omega)
              · skip
                simp only [bi_eq, bi_ne, Classical.not_not] at h47
                refine ks_aload_n (n := 51) S dX4_two_50 rfl rfl ?_
                refine ks_iload_n (n := 52) S dX4_two_51 rfl rfl ?_
                refine ks_iload_n (n := 53) S dX4_two_52 rfl rfl ?_
                refine ks_iload_n (n := 54) S dX4_two_53 rfl rfl ?_
                refine ks_iload (n := 56) S dX4_two_54 rfl rfl ?_
                refine ks_iload (n := 58) S dX4_two_56 rfl rfl ?_
                refine ks_v5z (n := 61) S dX4_two_58 rfl ml_X4_206 ym_X4_secondIsContent (ev_X4_secondIsContent hM (hC.fr F) ht4 (by omega) (by omega)) (by decide) rfl (Nat.le_of_ble_eq_true rfl) (fun r58 τ58 q58 => ?_)
                obtain ⟨q1, q2⟩ := q58
                have F := F.tr q2
                cases q1
                refine ks_if_eq (n := 64) (tgt := 73) S dX4_two_61 rfl rfl (fun h61 => ?_) (fun h61 => ?_)
                · skip
                  simp only [bi_eq, bi_ne, Classical.not_not] at h61
                  refine ks_iinc (n := 76) S dX4_two_73 rfl rfl (by omega) (L' := fun y => [some (kr 0), some (ki a), some (ki b), some (ki d), some (ki (0)), some (ki (1)), some (ki y)]) (fun _ => rfl) (fun v6_73 hv73 => ?_)
                  obtain rfl : v6_73 = 2 := by omega
                  refine ks_goto (n := 33) S dX4_two_76 rfl ?_
                  refine ks_iload (n := 35) S dX4_two_33 rfl rfl ?_
                  refine ks_iconst (n := 36) S dX4_two_35 rfl (by unfold iv; decide) ?_
                  refine ks_icmp_gt (n := 39) (tgt := 79) S dX4_two_36 rfl rfl (fun h36 => ?_) (fun h36 => ?_)
                  rotate_left
                  · omega
                  refine ks_iinc (n := 82) S dX4_two_79 rfl rfl (by omega) (L' := fun y => [some (kr 0), some (ki a), some (ki b), some (ki d), some (ki (0)), some (ki y), some (ki (2))]) (fun _ => rfl) (fun v5_79 hv79 => ?_)
                  obtain rfl : v5_79 = 2 := by omega
                  refine ks_goto (n := 24) S dX4_two_82 rfl ?_
                  refine ks_iload (n := 26) S dX4_two_24 rfl rfl ?_
                  refine ks_iconst (n := 27) S dX4_two_26 rfl (by unfold iv; decide) ?_
                  refine ks_icmp_gt (n := 30) (tgt := 85) S dX4_two_27 rfl rfl (fun h27 => ?_) (fun h27 => ?_)
                  rotate_left
                  · omega
                  refine ks_bipush (n := 87) S dX4_two_85 rfl (by unfold iv; decide) ?_
                  refine ks_iret S dX4_two_87 ?_
                  exact qc_t hC F (by unfold A_two; rw [hw4, if_neg (by decide)]; refine congrArg (fun z => (z, M)) ?_; unfold m_P; (repeat' split) <;> omega)
                · skip
                  simp only [bi_eq, bi_ne, Classical.not_not] at h61
                  refine ks_bipush (n := 66) S dX4_two_64 rfl (by unfold iv; decide) ?_
                  refine ks_iload (n := 68) S dX4_two_66 rfl rfl ?_
                  refine ks_imul (n := 69) S dX4_two_68 rfl (by omega) ?_
                  refine ks_iload (n := 71) S dX4_two_69 rfl rfl ?_
                  refine ks_iadd (n := 72) S dX4_two_71 rfl (by omega) ?_
                  refine ks_iret S dX4_two_72 ?_
                  exact qc_t hC F (by unfold A_two; rw [hw4, if_neg (by decide)]; refine congrArg (fun z => (z, M)) ?_; unfold m_P; (repeat' split) <;> omega)
            · skip
              simp only [bi_eq, bi_ne, Classical.not_not] at h61
              refine ks_bipush (n := 66) S dX4_two_64 rfl (by unfold iv; decide) ?_
              refine ks_iload (n := 68) S dX4_two_66 rfl rfl ?_
              refine ks_imul (n := 69) S dX4_two_68 rfl (by omega) ?_
              refine ks_iload (n := 71) S dX4_two_69 rfl rfl ?_
              refine ks_iadd (n := 72) S dX4_two_71 rfl (by omega) ?_
              refine ks_iret S dX4_two_72 ?_
              exact qc_t hC F (by unfold A_two; rw [hw4, if_neg (by decide)]; refine congrArg (fun z => (z, M)) ?_; unfold m_P; (repeat' split) <;> omega)
        · skip
          simp only [bi_eq, bi_ne, Classical.not_not] at h47
          refine ks_aload_n (n := 51) S dX4_two_50 rfl rfl ?_
          refine ks_iload_n (n := 52) S dX4_two_51 rfl rfl ?_
          refine ks_iload_n (n := 53) S dX4_two_52 rfl rfl ?_
          refine ks_iload_n (n := 54) S dX4_two_53 rfl rfl ?_
          refine ks_iload (n := 56) S dX4_two_54 rfl rfl ?_
          refine ks_iload (n := 58) S dX4_two_56 rfl rfl ?_
          refine ks_v5z (n := 61) S dX4_two_58 rfl ml_X4_206 ym_X4_secondIsContent (ev_X4_secondIsContent hM (hC.fr F) ht4 (by omega) (by omega)) (by decide) rfl (Nat.le_of_ble_eq_true rfl) (fun r58 τ58 q58 => ?_)
          obtain ⟨q1, q2⟩ := q58
          have F := F.tr q2
          cases q1
          refine ks_if_eq (n := 64) (tgt := 73) S dX4_two_61 rfl rfl (fun h61 => ?_) (fun h61 => ?_)
          · skip
            simp only [bi_eq, bi_ne, Classical.not_not] at h61
            refine ks_iinc (n := 76) S dX4_two_73 rfl rfl (by omega) (L' := fun y => [some (kr 0), some (ki a), some (ki b), some (ki d), some (ki (0)), some (ki (0)), some (ki y)]) (fun _ => rfl) (fun v6_73 hv73 => ?_)
            obtain rfl : v6_73 = 2 := by omega
            refine ks_goto (n := 33) S dX4_two_76 rfl ?_
            refine ks_iload (n := 35) S dX4_two_33 rfl rfl ?_
            refine ks_iconst (n := 36) S dX4_two_35 rfl (by unfold iv; decide) ?_
            refine ks_icmp_gt (n := 39) (tgt := 79) S dX4_two_36 rfl rfl (fun h36 => ?_) (fun h36 => ?_)
            rotate_left
            · omega
            refine ks_iinc (n := 82) S dX4_two_79 rfl rfl (by omega) (L' := fun y => [some (kr 0), some (ki a), some (ki b), some (ki d), some (ki (0)), some (ki y), some (ki (2))]) (fun _ => rfl) (fun v5_79 hv79 => ?_)
            obtain rfl : v5_79 = 1 := by omega
            refine ks_goto (n := 24) S dX4_two_82 rfl ?_
            refine ks_iload (n := 26) S dX4_two_24 rfl rfl ?_
            refine ks_iconst (n := 27) S dX4_two_26 rfl (by unfold iv; decide) ?_
            refine ks_icmp_gt (n := 30) (tgt := 85) S dX4_two_27 rfl rfl (fun h27 => ?_) (fun h27 => ?_)
            · omega
            refine ks_iconst (n := 31) S dX4_two_30 rfl (by unfold iv; decide) ?_
            refine ks_istore (n := 33) S dX4_two_31 rfl (L' := fun y => [some (kr 0), some (ki a), some (ki b), some (ki d), some (ki (0)), some (ki (1)), some (ki y)]) (Nat.le_of_ble_eq_true rfl) (fun _ => rfl) (fun v6_31 hv31 => ?_)
            obtain rfl : v6_31 = 0 := by omega
            refine ks_iload (n := 35) S dX4_two_33 rfl rfl ?_
            refine ks_iconst (n := 36) S dX4_two_35 rfl (by unfold iv; decide) ?_
            refine ks_icmp_gt (n := 39) (tgt := 79) S dX4_two_36 rfl rfl (fun h36 => ?_) (fun h36 => ?_)
            · omega
            refine ks_aload_n (n := 40) S dX4_two_39 rfl rfl ?_
            refine ks_iload_n (n := 41) S dX4_two_40 rfl rfl ?_
            refine ks_iload_n (n := 42) S dX4_two_41 rfl rfl ?_
            refine ks_iload (n := 44) S dX4_two_42 rfl rfl ?_
            refine ks_v3z (n := 47) S dX4_two_44 rfl ml_X4_202 ym_X4_firstIsContent (ev_X4_firstIsContent hM (hC.fr F) ht4 (by omega)) (by decide) rfl (Nat.le_of_ble_eq_true rfl) (fun r44 τ44 q44 => ?_)
            obtain ⟨q1, q2⟩ := q44
            have F := F.tr q2
            cases q1
            refine ks_if_eq (n := 50) (tgt := 73) S dX4_two_47 rfl rfl (fun h47 => ?_) (fun h47 => ?_)
            · skip
              simp only [bi_eq, bi_ne, Classical.not_not] at h47
              refine ks_iinc (n := 76) S dX4_two_73 rfl rfl (by omega) (L' := fun y => [some (kr 0), some (ki a), some (ki b), some (ki d), some (ki (0)), some (ki (1)), some (ki y)]) (fun _ => rfl) (fun v6_73 hv73 => ?_)
              obtain rfl : v6_73 = 1 := by omega
              refine ks_goto (n := 33) S dX4_two_76 rfl ?_
              refine ks_iload (n := 35) S dX4_two_33 rfl rfl ?_
              refine ks_iconst (n := 36) S dX4_two_35 rfl (by unfold iv; decide) ?_
              refine ks_icmp_gt (n := 39) (tgt := 79) S dX4_two_36 rfl rfl (fun h36 => ?_) (fun h36 => ?_)
              · omega
              refine ks_aload_n (n := 40) S dX4_two_39 rfl rfl ?_
              refine ks_iload_n (n := 41) S dX4_two_40 rfl rfl ?_
              refine ks_iload_n (n := 42) S dX4_two_41 rfl rfl ?_
              refine ks_iload (n := 44) S dX4_two_42 rfl rfl ?_
              refine ks_v3z (n := 47) S dX4_two_44 rfl ml_X4_202 ym_X4_firstIsContent (ev_X4_firstIsContent hM (hC.fr F) ht4 (by omega)) (by decide) rfl (Nat.le_of_ble_eq_true rfl) (fun r44 τ44 q44 => ?_)
              obtain ⟨q1, q2⟩ := q44
              have F := F.tr q2
              cases q1
              refine ks_if_eq (n := 50) (tgt := 73) S dX4_two_47 rfl rfl (fun h47 => ?_) (fun h47 => ?_)
              · skip
                simp only [bi_eq, bi_ne, Classical.not_not] at h47
                refine ks_iinc (n := 76) S dX4_two_73 rfl rfl (by omega) (L' := fun y => [some (kr 0), some (ki a), some (ki b), some (ki d), some (ki (0)), some (ki (1)), some (ki y)]) (fun _ => rfl) (fun v6_73 hv73 => ?_)
                obtain rfl : v6_73 = 2 := by omega
                refine ks_goto (n := 33) S dX4_two_76 rfl ?_
                refine ks_iload (n := 35) S dX4_two_33 rfl rfl ?_
                refine ks_iconst (n := 36) S dX4_two_35 rfl (by unfold iv; decide) ?_
                refine ks_icmp_gt (n := 39) (tgt := 79) S dX4_two_36 rfl rfl (fun h36 => ?_) (fun h36 => ?_)
                rotate_left
                · omega
                refine ks_iinc (n := 82) S dX4_two_79 rfl rfl (by omega) (L' := fun y => [some (kr 0), some (ki a), some (ki b), some (ki d), some (ki (0)), some (ki y), some (ki (2))]) (fun _ => rfl) (fun v5_79 hv79 => ?_)
                obtain rfl : v5_79 = 2 := by omega
                refine ks_goto (n := 24) S dX4_two_82 rfl ?_
                refine ks_iload (n := 26) S dX4_two_24 rfl rfl ?_
                refine ks_iconst (n := 27) S dX4_two_26 rfl (by unfold iv; decide) ?_
                refine ks_icmp_gt (n := 30) (tgt := 85) S dX4_two_27 rfl rfl (fun h27 => ?_) (fun h27 => ?_)
                rotate_left
                · omega
                refine ks_bipush (n := 87) S dX4_two_85 rfl (by unfold iv; decide) ?_
                refine ks_iret S dX4_two_87 ?_
                exact qc_t hC F (by unfold A_two; rw [hw4, if_neg (by decide)]; refine congrArg (fun z => (z, M)) ?_; unfold m_P; (repeat' split) <;> omega)
              · skip
                simp only [bi_eq, bi_ne, Classical.not_not] at h47
                refine ks_aload_n (n := 51) S dX4_two_50 rfl rfl ?_
                refine ks_iload_n (n := 52) S dX4_two_51 rfl rfl ?_
                refine ks_iload_n (n := 53) S dX4_two_52 rfl rfl ?_
                refine ks_iload_n (n := 54) S dX4_two_53 rfl rfl ?_
                refine ks_iload (n := 56) S dX4_two_54 rfl rfl ?_
                refine ks_iload (n := 58) S dX4_two_56 rfl rfl ?_
                refine ks_v5z (n := 61) S dX4_two_58 rfl ml_X4_206 ym_X4_secondIsContent (ev_X4_secondIsContent hM (hC.fr F) ht4 (by omega) (by omega)) (by decide) rfl (Nat.le_of_ble_eq_true rfl) (fun r58 τ58 q58 => ?_)
                obtain ⟨q1, q2⟩ := q58
                have F := F.tr q2
                cases q1
                refine ks_if_eq (n := 64) (tgt := 73) S dX4_two_61 rfl rfl (fun h61 => ?_) (fun h61 => ?_)
                · skip
                  simp only [bi_eq, bi_ne, Classical.not_not] at h61
                  refine ks_iinc (n := 76) S dX4_two_73 rfl rfl (by omega) (L' := fun y => [some (kr 0), some (ki a), some (ki b), some (ki d), some (ki (0)), some (ki (1)), some (ki y)]) (fun _ => rfl) (fun v6_73 hv73 => ?_)
                  obtain rfl : v6_73 = 2 := by omega
                  refine ks_goto (n := 33) S dX4_two_76 rfl ?_
                  refine ks_iload (n := 35) S dX4_two_33 rfl rfl ?_
                  refine ks_iconst (n := 36) S dX4_two_35 rfl (by unfold iv; decide) ?_
                  refine ks_icmp_gt (n := 39) (tgt := 79) S dX4_two_36 rfl rfl (fun h36 => ?_) (fun h36 => ?_)
                  rotate_left
                  · omega
                  refine ks_iinc (n := 82) S dX4_two_79 rfl rfl (by omega) (L' := fun y => [some (kr 0), some (ki a), some (ki b), some (ki d), some (ki (0)), some (ki y), some (ki (2))]) (fun _ => rfl) (fun v5_79 hv79 => ?_)
                  obtain rfl : v5_79 = 2 := by omega
                  refine ks_goto (n := 24) S dX4_two_82 rfl ?_
                  refine ks_iload (n := 26) S dX4_two_24 rfl rfl ?_
                  refine ks_iconst (n := 27) S dX4_two_26 rfl (by unfold iv; decide) ?_
                  refine ks_icmp_gt (n := 30) (tgt := 85) S dX4_two_27 rfl rfl (fun h27 => ?_) (fun h27 => ?_)
                  rotate_left
                  · omega
                  refine ks_bipush (n := 87) S dX4_two_85 rfl (by unfold iv; decide) ?_
                  refine ks_iret S dX4_two_87 ?_
                  exact qc_t hC F (by unfold A_two; rw [hw4, if_neg (by decide)]; refine congrArg (fun z => (z, M)) ?_; unfold m_P; (repeat' split) <;> omega)
                · skip
                  simp only [bi_eq, bi_ne, Classical.not_not] at h61
                  refine ks_bipush (n := 66) S dX4_two_64 rfl (by unfold iv; decide) ?_
                  refine ks_iload (n := 68) S dX4_two_66 rfl rfl ?_
                  refine ks_imul (n := 69) S dX4_two_68 rfl (by omega) ?_
                  refine ks_iload (n := 71) S dX4_two_69 rfl rfl ?_
                  refine ks_iadd (n := 72) S dX4_two_71 rfl (by omega) ?_
                  refine ks_iret S dX4_two_72 ?_
                  exact qc_t hC F (by unfold A_two; rw [hw4, if_neg (by decide)]; refine congrArg (fun z => (z, M)) ?_; unfold m_P; (repeat' split) <;> omega)
            · skip
              simp only [bi_eq, bi_ne, Classical.not_not] at h47
              refine ks_aload_n (n := 51) S dX4_two_50 rfl rfl ?_
              refine ks_iload_n (n := 52) S dX4_two_51 rfl rfl ?_
              refine ks_iload_n (n := 53) S dX4_two_52 rfl rfl ?_
              refine ks_iload_n (n := 54) S dX4_two_53 rfl rfl ?_
              refine ks_iload (n := 56) S dX4_two_54 rfl rfl ?_
              refine ks_iload (n := 58) S dX4_two_56 rfl rfl ?_
              refine ks_v5z (n := 61) S dX4_two_58 rfl ml_X4_206 ym_X4_secondIsContent (ev_X4_secondIsContent hM (hC.fr F) ht4 (by omega) (by omega)) (by decide) rfl (Nat.le_of_ble_eq_true rfl) (fun r58 τ58 q58 => ?_)
              obtain ⟨q1, q2⟩ := q58
              have F := F.tr q2
              cases q1
              refine ks_if_eq (n := 64) (tgt := 73) S dX4_two_61 rfl rfl (fun h61 => ?_) (fun h61 => ?_)
              · skip
                simp only [bi_eq, bi_ne, Classical.not_not] at h61
                refine ks_iinc (n := 76) S dX4_two_73 rfl rfl (by omega) (L' := fun y => [some (kr 0), some (ki a), some (ki b), some (ki d), some (ki (0)), some (ki (1)), some (ki y)]) (fun _ => rfl) (fun v6_73 hv73 => ?_)
                obtain rfl : v6_73 = 1 := by omega
                refine ks_goto (n := 33) S dX4_two_76 rfl ?_
                refine ks_iload (n := 35) S dX4_two_33 rfl rfl ?_
                refine ks_iconst (n := 36) S dX4_two_35 rfl (by unfold iv; decide) ?_
                refine ks_icmp_gt (n := 39) (tgt := 79) S dX4_two_36 rfl rfl (fun h36 => ?_) (fun h36 => ?_)
                · omega
                refine ks_aload_n (n := 40) S dX4_two_39 rfl rfl ?_
                refine ks_iload_n (n := 41) S dX4_two_40 rfl rfl ?_
                refine ks_iload_n (n := 42) S dX4_two_41 rfl rfl ?_
                refine ks_iload (n := 44) S dX4_two_42 rfl rfl ?_
                refine ks_v3z (n := 47) S dX4_two_44 rfl ml_X4_202 ym_X4_firstIsContent (ev_X4_firstIsContent hM (hC.fr F) ht4 (by omega)) (by decide) rfl (Nat.le_of_ble_eq_true rfl) (fun r44 τ44 q44 => ?_)
                obtain ⟨q1, q2⟩ := q44
                have F := F.tr q2
                cases q1
                refine ks_if_eq (n := 50) (tgt := 73) S dX4_two_47 rfl rfl (fun h47 => ?_) (fun h47 => ?_)
                · skip
                  simp only [bi_eq, bi_ne, Classical.not_not] at h47
                  refine ks_iinc (n := 76) S dX4_two_73 rfl rfl (by omega) (L' := fun y => [some (kr 0), some (ki a), some (ki b), some (ki d), some (ki (0)), some (ki (1)), some (ki y)]) (fun _ => rfl) (fun v6_73 hv73 => ?_)
                  obtain rfl : v6_73 = 2 := by omega
                  refine ks_goto (n := 33) S dX4_two_76 rfl ?_
                  refine ks_iload (n := 35) S dX4_two_33 rfl rfl ?_
                  refine ks_iconst (n := 36) S dX4_two_35 rfl (by unfold iv; decide) ?_
                  refine ks_icmp_gt (n := 39) (tgt := 79) S dX4_two_36 rfl rfl (fun h36 => ?_) (fun h36 => ?_)
                  rotate_left
                  · omega
                  refine ks_iinc (n := 82) S dX4_two_79 rfl rfl (by omega) (L' := fun y => [some (kr 0), some (ki a), some (ki b), some (ki d), some (ki (0)), some (ki y), some (ki (2))]) (fun _ => rfl) (fun v5_79 hv79 => ?_)
                  obtain rfl : v5_79 = 2 := by omega
                  refine ks_goto (n := 24) S dX4_two_82 rfl ?_
                  refine ks_iload (n := 26) S dX4_two_24 rfl rfl ?_
                  refine ks_iconst (n := 27) S dX4_two_26 rfl (by unfold iv; decide) ?_
                  refine ks_icmp_gt (n := 30) (tgt := 85) S dX4_two_27 rfl rfl (fun h27 => ?_) (fun h27 => ?_)
                  rotate_left
                  · omega
                  refine ks_bipush (n := 87) S dX4_two_85 rfl (by unfold iv; decide) ?_
                  refine ks_iret S dX4_two_87 ?_
                  exact qc_t hC F (by unfold A_two; rw [hw4, if_neg (by decide)]; refine congrArg (fun z => (z, M)) ?_; unfold m_P; (repeat' split) <;> omega)
                · skip
                  simp only [bi_eq, bi_ne, Classical.not_not] at h47
                  refine ks_aload_n (n := 51) S dX4_two_50 rfl rfl ?_
                  refine ks_iload_n (n := 52) S dX4_two_51 rfl rfl ?_
                  refine ks_iload_n (n := 53) S dX4_two_52 rfl rfl ?_
                  refine ks_iload_n (n := 54) S dX4_two_53 rfl rfl ?_
                  refine ks_iload (n := 56) S dX4_two_54 rfl rfl ?_
                  refine ks_iload (n := 58) S dX4_two_56 rfl rfl ?_
                  refine ks_v5z (n := 61) S dX4_two_58 rfl ml_X4_206 ym_X4_secondIsContent (ev_X4_secondIsContent hM (hC.fr F) ht4 (by omega) (by omega)) (by decide) rfl (Nat.le_of_ble_eq_true rfl) (fun r58 τ58 q58 => ?_)
                  obtain ⟨q1, q2⟩ := q58
                  have F := F.tr q2
                  cases q1
                  refine ks_if_eq (n := 64) (tgt := 73) S dX4_two_61 rfl rfl (fun h61 => ?_) (fun h61 => ?_)
                  · skip
                    simp only [bi_eq, bi_ne, Classical.not_not] at h61
                    refine ks_iinc (n := 76) S dX4_two_73 rfl rfl (by omega) (L' := fun y => [some (kr 0), some (ki a), some (ki b), some (ki d), some (ki (0)), some (ki (1)), some (ki y)]) (fun _ => rfl) (fun v6_73 hv73 => ?_)
                    obtain rfl : v6_73 = 2 := by omega
                    refine ks_goto (n := 33) S dX4_two_76 rfl ?_
                    refine ks_iload (n := 35) S dX4_two_33 rfl rfl ?_
                    refine ks_iconst (n := 36) S dX4_two_35 rfl (by unfold iv; decide) ?_
                    refine ks_icmp_gt (n := 39) (tgt := 79) S dX4_two_36 rfl rfl (fun h36 => ?_) (fun h36 => ?_)
                    rotate_left
                    · omega
                    refine ks_iinc (n := 82) S dX4_two_79 rfl rfl (by omega) (L' := fun y => [some (kr 0), some (ki a), some (ki b), some (ki d), some (ki (0)), some (ki y), some (ki (2))]) (fun _ => rfl) (fun v5_79 hv79 => ?_)
                    obtain rfl : v5_79 = 2 := by omega
                    refine ks_goto (n := 24) S dX4_two_82 rfl ?_
                    refine ks_iload (n := 26) S dX4_two_24 rfl rfl ?_
                    refine ks_iconst (n := 27) S dX4_two_26 rfl (by unfold iv; decide) ?_
                    refine ks_icmp_gt (n := 30) (tgt := 85) S dX4_two_27 rfl rfl (fun h27 => ?_) (fun h27 => ?_)
                    rotate_left
                    · omega
                    refine ks_bipush (n := 87) S dX4_two_85 rfl (by unfold iv; decide) ?_
                    refine ks_iret S dX4_two_87 ?_
                    exact qc_t hC F (by unfold A_two; rw [hw4, if_neg (by decide)]; refine congrArg (fun z => (z, M)) ?_; unfold m_P; (repeat' split) <;> omega)
                  · skip
                    simp only [bi_eq, bi_ne, Classical.not_not] at h61
                    refine ks_bipush (n := 66) S dX4_two_64 rfl (by unfold iv; decide) ?_
                    refine ks_iload (n := 68) S dX4_two_66 rfl rfl ?_
                    refine ks_imul (n := 69) S dX4_two_68 rfl (by omega) ?_
                    refine ks_iload (n := 71) S dX4_two_69 rfl rfl ?_
                    refine ks_iadd (n := 72) S dX4_two_71 rfl (by omega) ?_
                    refine ks_iret S dX4_two_72 ?_
                    exact qc_t hC F (by unfold A_two; rw [hw4, if_neg (by decide)]; refine congrArg (fun z => (z, M)) ?_; unfold m_P; (repeat' split) <;> omega)
              · skip
                simp only [bi_eq, bi_ne, Classical.not_not] at h61
                refine ks_bipush (n := 66) S dX4_two_64 rfl (by unfold iv; decide) ?_
                refine ks_iload (n := 68) S dX4_two_66 rfl rfl ?_
                refine ks_imul (n := 69) S dX4_two_68 rfl (by omega) ?_
                refine ks_iload (n := 71) S dX4_two_69 rfl rfl ?_
                refine ks_iadd (n := 72) S dX4_two_71 rfl (by omega) ?_
                refine ks_iret S dX4_two_72 ?_
                exact qc_t hC F (by unfold A_two; rw [hw4, if_neg (by decide)]; refine congrArg (fun z => (z, M)) ?_; unfold m_P; (repeat' split) <;> omega)
          · skip
            simp only [bi_eq, bi_ne, Classical.not_not] at h61
            refine ks_bipush (n := 66) S dX4_two_64 rfl (by unfold iv; decide) ?_
            refine ks_iload (n := 68) S dX4_two_66 rfl rfl ?_
            refine ks_imul (n := 69) S dX4_two_68 rfl (by omega) ?_
            refine ks_iload (n := 71) S dX4_two_69 rfl rfl ?_
            refine ks_iadd (n := 72) S dX4_two_71 rfl (by omega) ?_
            refine ks_iret S dX4_two_72 ?_
            exact qc_t hC F (by unfold A_two; rw [hw4, if_neg (by decide)]; refine congrArg (fun z => (z, M)) ?_; unfold m_P; (repeat' split) <;> omega)
      · skip
        simp only [bi_eq, bi_ne, Classical.not_not] at h61
        refine ks_bipush (n := 66) S dX4_two_64 rfl (by unfold iv; decide) ?_
        refine ks_iload (n := 68) S dX4_two_66 rfl rfl ?_
        refine ks_imul (n := 69) S dX4_two_68 rfl (by omega) ?_
        refine ks_iload (n := 71) S dX4_two_69 rfl rfl ?_
        refine ks_iadd (n := 72) S dX4_two_71 rfl (by omega) ?_
        refine ks_iret S dX4_two_72 ?_
        exact qc_t hC F (by unfold A_two; rw [hw4, if_neg (by decide)]; refine congrArg (fun z => (z, M)) ?_; unfold m_P; (repeat' split) <;> omega)
theorem ev_X5_moodBy {w a x b y d : Int} (hM : OkM M) (hR : RR σ M) (h : m_tw (M 39) a b d) (hw : w = a ∨ w = b) (hx : x = 0 ∨ x = 1) (hy : y = 0 ∨ y = 1) : Ev l yX5_moodBy cX5_moodBy 7 (some .int) 4 91 [kr 38, ki w, ki a, ki x, ki b, ki y, ki d] σ (fun r τ => r = some (ki (if w = a then m_w1 (M 39) a d x else m_w2 (M 39) a b d x y)) ∧ FrQ σ τ) := by
  have e39 : σ 39 = M 39 := hR.1
  have ok := hM.1
  have n9 := ok.1
  have n6 := ok.2.1
  have ha := h.1
  have hb := h.2.1
  have hab := h.2.2.1
  obtain ⟨k1, k2, k3⟩ := m_xy_ok ok h x y
  have p1 := k1.2.2.2.2 w (by omega) (by omega)
  unfold OkP at p1
  have e1 : aP (m_xy (M 39) a x b y d) w 2 = m_xy (M 39) a x b y d (57 + 3 * w + 2) := rfl
  have hd := h.2.2.2.1
  have ea : aP (m_xy (M 39) a x b y d) a 2 = aP (if x = 1 then m_open (M 39) a d else M 39) a 2 := by
    unfold m_xy
    by_cases h1 : y = 1
    · rw [if_pos h1]; exact m_open_P hb.1 (by omega) ⟨ha.1, hab⟩ (by omega)
    · rw [if_neg h1]
  refine ev_intro ym_X5_moodBy.1 (Nat.le_of_ble_eq_true rfl) (fun hv hσ K S => ?_)
  have hv := hv
  show K 0 [some (kr 38), some (ki w), some (ki a), some (ki x), some (ki b), some (ki y), some (ki d)] [] σ
  refine ks_aload_n (n := 1) S dX5_moodBy_0 rfl rfl ?_
  refine ks_iload_n (n := 2) S dX5_moodBy_1 rfl rfl ?_
  refine ks_iload_n (n := 3) S dX5_moodBy_2 rfl rfl ?_
  refine ks_iload (n := 5) S dX5_moodBy_3 rfl rfl ?_
  refine ks_iload (n := 7) S dX5_moodBy_5 rfl rfl ?_
  refine ks_iload (n := 9) S dX5_moodBy_7 rfl rfl ?_
  refine kf_v5v (n := 12) S dX5_moodBy_9 rfl ml_X5_191 ym_X5_opensBoth (ev_X5_opensBoth (by rw [e39]; exact ok) (by rw [e39]; exact hM.2.2.1) hR.2.2.2.2.2.2.2.2.1 (by rw [e39]; exact h)) (by decide) rfl (Nat.le_of_ble_eq_true rfl) ?_
  rw [e39]
  refine ks_aload_n (n := 13) S dX5_moodBy_12 rfl rfl ?_
  refine ks_getr (n := 16) S dX5_moodBy_13 rfl fl_X5_13 rfl rfl ?_
  refine ks_iload_n (n := 17) S dX5_moodBy_16 rfl rfl ?_
  refine ks_iconst (n := 18) S dX5_moodBy_17 rfl (by unfold iv; decide) ?_
  refine kf_s2i (n := 21) S dX5_moodBy_18 rfl ml_X5_55 ym_X5_ofP (ev_X5_ofP (by omega) (by omega)) (by decide) (Nat.le_of_ble_eq_true rfl) ?_
  refine ks_iaload (n := 22) S dX5_moodBy_21 rfl rfl (by omega) ?_
  rw [sr_r]
  refine ks_iconst (n := 23) S dX5_moodBy_22 rfl (by unfold iv; decide) ?_
  refine ks_iload_n (n := 24) S dX5_moodBy_23 rfl rfl ?_
  refine ks_iload_n (n := 25) S dX5_moodBy_24 rfl rfl ?_
  refine ks_icmp_ne (n := 28) (tgt := 32) S dX5_moodBy_25 rfl rfl (fun h25 => ?_) (fun h25 => ?_)
  · skip
    refine ks_iload (n := 34) S dX5_moodBy_32 rfl rfl ?_
    refine ks_imul (n := 35) S dX5_moodBy_34 rfl (by omega) ?_
    refine ks_isub (n := 36) S dX5_moodBy_35 rfl (by omega) ?_
    refine ks_iret S dX5_moodBy_36 ?_
    refine ⟨?_, FrQ.m (m_xy_z ok h hM.2.2.1 x y)⟩
    first | (rw [if_pos h25]; unfold m_w1; rw [← ea, ← h25]; rfl) | (rw [if_neg h25]; unfold m_w2; rw [show b = w by omega]; rfl)
  · skip
    refine ks_iload_n (n := 29) S dX5_moodBy_28 rfl rfl ?_
    refine ks_goto (n := 34) S dX5_moodBy_29 rfl ?_
    refine ks_imul (n := 35) S dX5_moodBy_34 rfl (by omega) ?_
    refine ks_isub (n := 36) S dX5_moodBy_35 rfl (by omega) ?_
    refine ks_iret S dX5_moodBy_36 ?_
    refine ⟨?_, FrQ.m (m_xy_z ok h hM.2.2.1 x y)⟩
    first | (rw [if_pos h25]; unfold m_w1; rw [← ea, ← h25]; rfl) | (rw [if_neg h25]; unfold m_w2; rw [show b = w by omega]; rfl)
theorem pr_two {a b d : Int} (hM : OkM M) (hR : RR σ M) : Ev l yX5_two cX5_two 8 (some .int) 5 117 [kr 38, ki a, ki b, ki d] σ (QR (A_two M a b d) σ) := by
  have e39 : σ 39 = M 39 := hR.1
  have ok : OkR (σ 39) := by rw [e39]; exact hM.1
  have n9 := ok.1
  have n6 := ok.2.1
  refine ev_intro ym_X5_two.1 (Nat.le_of_ble_eq_true rfl) (fun hv hσ K S => ?_)
  have hv := hv
  show K 0 [some (kr 38), some (ki a), some (ki b), some (ki d), none, none, none, none] [] σ
  refine ks_aload_n (n := 1) S dX5_two_0 rfl rfl ?_
  refine ks_iload_n (n := 2) S dX5_two_1 rfl rfl ?_
  refine ks_iload_n (n := 3) S dX5_two_2 rfl rfl ?_
  refine ks_iload_n (n := 4) S dX5_two_3 rfl rfl ?_
  refine kf_v3i (n := 7) S dX5_two_4 rfl ml_X5_195 ym_X5_wrongTwo (ev_X5_wrongTwo ok) (by decide) rfl (Nat.le_of_ble_eq_true rfl) ?_
  rcases m_nt_c (σ 39) a b d with hw4 | hw4 | ⟨hw4, ht4⟩
  · skip
    rw [hw4]
    refine ks_istore (n := 9) S dX5_two_7 rfl (L' := fun y => [some (kr 38), some (ki a), some (ki b), some (ki d), some (ki y), none, none, none]) (Nat.le_of_ble_eq_true rfl) (fun _ => rfl) (fun v4_7 hv7 => ?_)
    obtain rfl : v4_7 = -1 := by omega
    refine ks_iload (n := 11) S dX5_two_9 rfl rfl ?_
    refine ks_if_eq (n := 14) (tgt := 21) S dX5_two_11 rfl rfl (fun h11 => ?_) (fun h11 => ?_)
    · omega
    refine ks_aload_n (n := 15) S dX5_two_14 rfl rfl ?_
    refine ks_iload (n := 17) S dX5_two_15 rfl rfl ?_
    refine kf_v1i (n := 20) S dX5_two_17 rfl ml_X5_38 ym_X5_no (ev_X5_no (by omega)) (by decide) rfl (Nat.le_of_ble_eq_true rfl) ?_
    refine ks_iret S dX5_two_20 ?_
    exact qr_r hR (by unfold A_two; rw [← e39, hw4, if_pos (by decide)])
  · skip
    rw [hw4]
    refine ks_istore (n := 9) S dX5_two_7 rfl (L' := fun y => [some (kr 38), some (ki a), some (ki b), some (ki d), some (ki y), none, none, none]) (Nat.le_of_ble_eq_true rfl) (fun _ => rfl) (fun v4_7 hv7 => ?_)
    obtain rfl : v4_7 = -3 := by omega
    refine ks_iload (n := 11) S dX5_two_9 rfl rfl ?_
    refine ks_if_eq (n := 14) (tgt := 21) S dX5_two_11 rfl rfl (fun h11 => ?_) (fun h11 => ?_)
    · omega
    refine ks_aload_n (n := 15) S dX5_two_14 rfl rfl ?_
    refine ks_iload (n := 17) S dX5_two_15 rfl rfl ?_
    refine kf_v1i (n := 20) S dX5_two_17 rfl ml_X5_38 ym_X5_no (ev_X5_no (by omega)) (by decide) rfl (Nat.le_of_ble_eq_true rfl) ?_
    refine ks_iret S dX5_two_20 ?_
    exact qr_r hR (by unfold A_two; rw [← e39, hw4, if_pos (by decide)])
  · skip
    rw [hw4]
    refine ks_istore (n := 9) S dX5_two_7 rfl (L' := fun y => [some (kr 38), some (ki a), some (ki b), some (ki d), some (ki y), none, none, none]) (Nat.le_of_ble_eq_true rfl) (fun _ => rfl) (fun v4_7 hv7 => ?_)
    obtain rfl : v4_7 = 0 := by omega
    refine ks_iload (n := 11) S dX5_two_9 rfl rfl ?_
    refine ks_if_eq (n := 14) (tgt := 21) S dX5_two_11 rfl rfl (fun h11 => ?_) (fun h11 => ?_)
    rotate_left
    · omega
    have F : FrQ σ σ := FrQ.rf hR.2.2.2.2.2.2.2.2.1
    have ht5 : m_tw (M 39) a b d := by rw [← e39]; exact ht4
    have hab := ht4.2.2.1
    refine ks_iconst (n := 22) S dX5_two_21 rfl (by unfold iv; decide) ?_
    refine ks_istore (n := 24) S dX5_two_22 rfl (L' := fun y => [some (kr 38), some (ki a), some (ki b), some (ki d), some (ki (0)), some (ki y), none, none]) (Nat.le_of_ble_eq_true rfl) (fun _ => rfl) (fun v5_22 hv22 => ?_)
    obtain rfl : v5_22 = 0 := by omega
    refine ks_iload (n := 26) S dX5_two_24 rfl rfl ?_
    refine ks_iconst (n := 27) S dX5_two_26 rfl (by unfold iv; decide) ?_
    refine ks_icmp_ge (n := 30) (tgt := 115) S dX5_two_27 rfl rfl (fun h27 => ?_) (fun h27 => ?_)
    · omega
    refine ks_iload (n := 32) S dX5_two_30 rfl rfl ?_
    refine ks_iconst (n := 33) S dX5_two_32 rfl (by unfold iv; decide) ?_
    refine ks_idiv (n := 34) S dX5_two_33 rfl (by omega) ?_
    refine ks_istore (n := 36) S dX5_two_34 rfl (L' := fun y => [some (kr 38), some (ki a), some (ki b), some (ki d), some (ki (0)), some (ki (0)), some (ki y), none]) (Nat.le_of_ble_eq_true rfl) (fun _ => rfl) (fun v6_34 hv34 => ?_)
    obtain rfl : v6_34 = 0 := by omega
    refine ks_iload (n := 38) S dX5_two_36 rfl rfl ?_
    refine ks_iconst (n := 39) S dX5_two_38 rfl (by unfold iv; decide) ?_
    refine ks_irem (n := 40) S dX5_two_39 rfl (by omega) ?_
    refine ks_istore (n := 42) S dX5_two_40 rfl (L' := fun y => [some (kr 38), some (ki a), some (ki b), some (ki d), some (ki (0)), some (ki (0)), some (ki (0)), some (ki y)]) (Nat.le_of_ble_eq_true rfl) (fun _ => rfl) (fun v7_40 hv40 => ?_)
    obtain rfl : v7_40 = 0 := by omega
    refine ks_aload_n (n := 43) S dX5_two_42 rfl rfl ?_
    refine ks_iload_n (n := 44) S dX5_two_43 rfl rfl ?_
    refine ks_iload_n (n := 45) S dX5_two_44 rfl rfl ?_
    refine ks_iconst (n := 46) S dX5_two_45 rfl (by unfold iv; decide) ?_
    refine ks_iload (n := 48) S dX5_two_46 rfl rfl ?_
    refine ks_isub (n := 49) S dX5_two_48 rfl (by omega) ?_
    refine ks_iload_n (n := 50) S dX5_two_49 rfl rfl ?_
    refine ks_iload (n := 52) S dX5_two_50 rfl rfl ?_
    refine ks_iload_n (n := 53) S dX5_two_52 rfl rfl ?_
    refine ks_v6i (n := 56) S dX5_two_53 rfl ml_X5_216 ym_X5_moodBy (ev_X5_moodBy hM (hR.fr F) ht5 (by omega) (by omega) (by omega)) (by decide) rfl (Nat.le_of_ble_eq_true rfl) (fun r53 τ53 q53 => ?_)
    obtain ⟨q1, q2⟩ := q53
    have F := F.tr q2
    cases q1
    rw [if_pos rfl]
    refine ks_aload_n (n := 57) S dX5_two_56 rfl rfl ?_
    refine ks_iload_n (n := 58) S dX5_two_57 rfl rfl ?_
    refine ks_iload_n (n := 59) S dX5_two_58 rfl rfl ?_
    refine ks_iload (n := 61) S dX5_two_59 rfl rfl ?_
    refine ks_iload_n (n := 62) S dX5_two_61 rfl rfl ?_
    refine ks_iload (n := 64) S dX5_two_62 rfl rfl ?_
    refine ks_iload_n (n := 65) S dX5_two_64 rfl rfl ?_
    refine ks_v6i (n := 68) S dX5_two_65 rfl ml_X5_216 ym_X5_moodBy (ev_X5_moodBy hM (hR.fr F) ht5 (by omega) (by omega) (by omega)) (by decide) rfl (Nat.le_of_ble_eq_true rfl) (fun r65 τ65 q65 => ?_)
    obtain ⟨q1, q2⟩ := q65
    have F := F.tr q2
    cases q1
    rw [if_pos rfl]
    refine ks_icmp_lt (n := 71) (tgt := 109) S dX5_two_68 rfl rfl (fun h68 => ?_) (fun h68 => ?_)
    · skip
      refine ks_iinc (n := 112) S dX5_two_109 rfl rfl (by omega) (L' := fun y => [some (kr 38), some (ki a), some (ki b), some (ki d), some (ki (0)), some (ki y), some (ki (0)), some (ki (0))]) (fun _ => rfl) (fun v5_109 hv109 => ?_)
      obtain rfl : v5_109 = 1 := by omega
      refine ks_goto (n := 24) S dX5_two_112 rfl ?_
      refine ks_iload (n := 26) S dX5_two_24 rfl rfl ?_
      refine ks_iconst (n := 27) S dX5_two_26 rfl (by unfold iv; decide) ?_
      refine ks_icmp_ge (n := 30) (tgt := 115) S dX5_two_27 rfl rfl (fun h27 => ?_) (fun h27 => ?_)
      · omega
      refine ks_iload (n := 32) S dX5_two_30 rfl rfl ?_
      refine ks_iconst (n := 33) S dX5_two_32 rfl (by unfold iv; decide) ?_
      refine ks_idiv (n := 34) S dX5_two_33 rfl (by omega) ?_
      refine ks_istore (n := 36) S dX5_two_34 rfl (L' := fun y => [some (kr 38), some (ki a), some (ki b), some (ki d), some (ki (0)), some (ki (1)), some (ki y), some (ki (0))]) (Nat.le_of_ble_eq_true rfl) (fun _ => rfl) (fun v6_34 hv34 => ?_)
      obtain rfl : v6_34 = 0 := by omega
      refine ks_iload (n := 38) S dX5_two_36 rfl rfl ?_
      refine ks_iconst (n := 39) S dX5_two_38 rfl (by unfold iv; decide) ?_
      refine ks_irem (n := 40) S dX5_two_39 rfl (by omega) ?_
      refine ks_istore (n := 42) S dX5_two_40 rfl (L' := fun y => [some (kr 38), some (ki a), some (ki b), some (ki d), some (ki (0)), some (ki (1)), some (ki (0)), some (ki y)]) (Nat.le_of_ble_eq_true rfl) (fun _ => rfl) (fun v7_40 hv40 => ?_)
      obtain rfl : v7_40 = 1 := by omega
      refine ks_aload_n (n := 43) S dX5_two_42 rfl rfl ?_
      refine ks_iload_n (n := 44) S dX5_two_43 rfl rfl ?_
      refine ks_iload_n (n := 45) S dX5_two_44 rfl rfl ?_
      refine ks_iconst (n := 46) S dX5_two_45 rfl (by unfold iv; decide) ?_
      refine ks_iload (n := 48) S dX5_two_46 rfl rfl ?_
      refine ks_isub (n := 49) S dX5_two_48 rfl (by omega) ?_
      refine ks_iload_n (n := 50) S dX5_two_49 rfl rfl ?_
      refine ks_iload (n := 52) S dX5_two_50 rfl rfl ?_
      refine ks_iload_n (n := 53) S dX5_two_52 rfl rfl ?_
      refine ks_v6i (n := 56) S dX5_two_53 rfl ml_X5_216 ym_X5_moodBy (ev_X5_moodBy hM (hR.fr F) ht5 (by omega) (by omega) (by omega)) (by decide) rfl (Nat.le_of_ble_eq_true rfl) (fun r53 τ53 q53 => ?_)
      obtain ⟨q1, q2⟩ := q53
      have F := F.tr q2
      cases q1
      rw [if_pos rfl]
      refine ks_aload_n (n := 57) S dX5_two_56 rfl rfl ?_
      refine ks_iload_n (n := 58) S dX5_two_57 rfl rfl ?_
      refine ks_iload_n (n := 59) S dX5_two_58 rfl rfl ?_
      refine ks_iload (n := 61) S dX5_two_59 rfl rfl ?_
      refine ks_iload_n (n := 62) S dX5_two_61 rfl rfl ?_
      refine ks_iload (n := 64) S dX5_two_62 rfl rfl ?_
      refine ks_iload_n (n := 65) S dX5_two_64 rfl rfl ?_
      refine ks_v6i (n := 68) S dX5_two_65 rfl ml_X5_216 ym_X5_moodBy (ev_X5_moodBy hM (hR.fr F) ht5 (by omega) (by omega) (by omega)) (by decide) rfl (Nat.le_of_ble_eq_true rfl) (fun r65 τ65 q65 => ?_)
      obtain ⟨q1, q2⟩ := q65
      have F := F.tr q2
      cases q1
      rw [if_pos rfl]
      refine ks_icmp_lt (n := 71) (tgt := 109) S dX5_two_68 rfl rfl (fun h68 => ?_) (fun h68 => ?_)
      · skip
        refine ks_iinc (n := 112) S dX5_two_109 rfl rfl (by omega) (L' := fun y => [some (kr 38), some (ki a), some (ki b), some (ki d), some (ki (0)), some (ki y), some (ki (0)), some (ki (1))]) (fun _ => rfl) (fun v5_109 hv109 => ?_)
        obtain rfl : v5_109 = 2 := by omega
        refine ks_goto (n := 24) S dX5_two_112 rfl ?_
        refine ks_iload (n := 26) S dX5_two_24 rfl rfl ?_
        refine ks_iconst (n := 27) S dX5_two_26 rfl (by unfold iv; decide) ?_
        refine ks_icmp_ge (n := 30) (tgt := 115) S dX5_two_27 rfl rfl (fun h27 => ?_) (fun h27 => ?_)
        · omega
        refine ks_iload (n := 32) S dX5_two_30 rfl rfl ?_
        refine ks_iconst (n := 33) S dX5_two_32 rfl (by unfold iv; decide) ?_
        refine ks_idiv (n := 34) S dX5_two_33 rfl (by omega) ?_
        refine ks_istore (n := 36) S dX5_two_34 rfl (L' := fun y => [some (kr 38), some (ki a), some (ki b), some (ki d), some (ki (0)), some (ki (2)), some (ki y), some (ki (1))]) (Nat.le_of_ble_eq_true rfl) (fun _ => rfl) (fun v6_34 hv34 => ?_)
        obtain rfl : v6_34 = 1 := by omega
        refine ks_iload (n := 38) S dX5_two_36 rfl rfl ?_
        refine ks_iconst (n := 39) S dX5_two_38 rfl (by unfold iv; decide) ?_
        refine ks_irem (n := 40) S dX5_two_39 rfl (by omega) ?_
        refine ks_istore (n := 42) S dX5_two_40 rfl (L' := fun y => [some (kr 38), some (ki a), some (ki b), some (ki d), some (ki (0)), some (ki (2)), some (ki (1)), some (ki y)]) (Nat.le_of_ble_eq_true rfl) (fun _ => rfl) (fun v7_40 hv40 => ?_)
        obtain rfl : v7_40 = 0 := by omega
        refine ks_aload_n (n := 43) S dX5_two_42 rfl rfl ?_
        refine ks_iload_n (n := 44) S dX5_two_43 rfl rfl ?_
        refine ks_iload_n (n := 45) S dX5_two_44 rfl rfl ?_
        refine ks_iconst (n := 46) S dX5_two_45 rfl (by unfold iv; decide) ?_
        refine ks_iload (n := 48) S dX5_two_46 rfl rfl ?_
        refine ks_isub (n := 49) S dX5_two_48 rfl (by omega) ?_
        refine ks_iload_n (n := 50) S dX5_two_49 rfl rfl ?_
        refine ks_iload (n := 52) S dX5_two_50 rfl rfl ?_
        refine ks_iload_n (n := 53) S dX5_two_52 rfl rfl ?_
        refine ks_v6i (n := 56) S dX5_two_53 rfl ml_X5_216 ym_X5_moodBy (ev_X5_moodBy hM (hR.fr F) ht5 (by omega) (by omega) (by omega)) (by decide) rfl (Nat.le_of_ble_eq_true rfl) (fun r53 τ53 q53 => ?_)
        obtain ⟨q1, q2⟩ := q53
        have F := F.tr q2
        cases q1
        rw [if_pos rfl]
        refine ks_aload_n (n := 57) S dX5_two_56 rfl rfl ?_
        refine ks_iload_n (n := 58) S dX5_two_57 rfl rfl ?_
        refine ks_iload_n (n := 59) S dX5_two_58 rfl rfl ?_
        refine ks_iload (n := 61) S dX5_two_59 rfl rfl ?_
        refine ks_iload_n (n := 62) S dX5_two_61 rfl rfl ?_
        refine ks_iload (n := 64) S dX5_two_62 rfl rfl ?_
        refine ks_iload_n (n := 65) S dX5_two_64 rfl rfl ?_
        refine ks_v6i (n := 68) S dX5_two_65 rfl ml_X5_216 ym_X5_moodBy (ev_X5_moodBy hM (hR.fr F) ht5 (by omega) (by omega) (by omega)) (by decide) rfl (Nat.le_of_ble_eq_true rfl) (fun r65 τ65 q65 => ?_)
        obtain ⟨q1, q2⟩ := q65
        have F := F.tr q2
        cases q1
        rw [if_pos rfl]
        refine ks_icmp_lt (n := 71) (tgt := 109) S dX5_two_68 rfl rfl (fun h68 => ?_) (fun h68 => ?_)
        · skip
          refine ks_iinc (n := 112) S dX5_two_109 rfl rfl (by omega) (L' := fun y => [some (kr 38), some (ki a), some (ki b), some (ki d), some (ki (0)), some (ki y), some (ki (1)), some (ki (0))]) (fun _ => rfl) (fun v5_109 hv109 => ?_)
          obtain rfl : v5_109 = 3 := by omega
          refine ks_goto (n := 24) S dX5_two_112 rfl ?_
          refine ks_iload (n := 26) S dX5_two_24 rfl rfl ?_
          refine ks_iconst (n := 27) S dX5_two_26 rfl (by unfold iv; decide) ?_
          refine ks_icmp_ge (n := 30) (tgt := 115) S dX5_two_27 rfl rfl (fun h27 => ?_) (fun h27 => ?_)
          · omega
          refine ks_iload (n := 32) S dX5_two_30 rfl rfl ?_
          refine ks_iconst (n := 33) S dX5_two_32 rfl (by unfold iv; decide) ?_
          refine ks_idiv (n := 34) S dX5_two_33 rfl (by omega) ?_
          refine ks_istore (n := 36) S dX5_two_34 rfl (L' := fun y => [some (kr 38), some (ki a), some (ki b), some (ki d), some (ki (0)), some (ki (3)), some (ki y), some (ki (0))]) (Nat.le_of_ble_eq_true rfl) (fun _ => rfl) (fun v6_34 hv34 => ?_)
          obtain rfl : v6_34 = 1 := by omega
          refine ks_iload (n := 38) S dX5_two_36 rfl rfl ?_
          refine ks_iconst (n := 39) S dX5_two_38 rfl (by unfold iv; decide) ?_
          refine ks_irem (n := 40) S dX5_two_39 rfl (by omega) ?_
          refine ks_istore (n := 42) S dX5_two_40 rfl (L' := fun y => [some (kr 38), some (ki a), some (ki b), some (ki d), some (ki (0)), some (ki (3)), some (ki (1)), some (ki y)]) (Nat.le_of_ble_eq_true rfl) (fun _ => rfl) (fun v7_40 hv40 => ?_)
          obtain rfl : v7_40 = 1 := by omega
          refine ks_aload_n (n := 43) S dX5_two_42 rfl rfl ?_
          refine ks_iload_n (n := 44) S dX5_two_43 rfl rfl ?_
          refine ks_iload_n (n := 45) S dX5_two_44 rfl rfl ?_
          refine ks_iconst (n := 46) S dX5_two_45 rfl (by unfold iv; decide) ?_
          refine ks_iload (n := 48) S dX5_two_46 rfl rfl ?_
          refine ks_isub (n := 49) S dX5_two_48 rfl (by omega) ?_
          refine ks_iload_n (n := 50) S dX5_two_49 rfl rfl ?_
          refine ks_iload (n := 52) S dX5_two_50 rfl rfl ?_
          refine ks_iload_n (n := 53) S dX5_two_52 rfl rfl ?_
          refine ks_v6i (n := 56) S dX5_two_53 rfl ml_X5_216 ym_X5_moodBy (ev_X5_moodBy hM (hR.fr F) ht5 (by omega) (by omega) (by omega)) (by decide) rfl (Nat.le_of_ble_eq_true rfl) (fun r53 τ53 q53 => ?_)
          obtain ⟨q1, q2⟩ := q53
          have F := F.tr q2
          cases q1
          rw [if_pos rfl]
          refine ks_aload_n (n := 57) S dX5_two_56 rfl rfl ?_
          refine ks_iload_n (n := 58) S dX5_two_57 rfl rfl ?_
          refine ks_iload_n (n := 59) S dX5_two_58 rfl rfl ?_
          refine ks_iload (n := 61) S dX5_two_59 rfl rfl ?_
          refine ks_iload_n (n := 62) S dX5_two_61 rfl rfl ?_
          refine ks_iload (n := 64) S dX5_two_62 rfl rfl ?_
          refine ks_iload_n (n := 65) S dX5_two_64 rfl rfl ?_
          refine ks_v6i (n := 68) S dX5_two_65 rfl ml_X5_216 ym_X5_moodBy (ev_X5_moodBy hM (hR.fr F) ht5 (by omega) (by omega) (by omega)) (by decide) rfl (Nat.le_of_ble_eq_true rfl) (fun r65 τ65 q65 => ?_)
          obtain ⟨q1, q2⟩ := q65
          have F := F.tr q2
          cases q1
          rw [if_pos rfl]
          refine ks_icmp_lt (n := 71) (tgt := 109) S dX5_two_68 rfl rfl (fun h68 => ?_) (fun h68 => ?_)
          · skip
            refine ks_iinc (n := 112) S dX5_two_109 rfl rfl (by omega) (L' := fun y => [some (kr 38), some (ki a), some (ki b), some (ki d), some (ki (0)), some (ki y), some (ki (1)), some (ki (1))]) (fun _ => rfl) (fun v5_109 hv109 => ?_)
            obtain rfl : v5_109 = 4 := by omega
            refine ks_goto (n := 24) S dX5_two_112 rfl ?_
            refine ks_iload (n := 26) S dX5_two_24 rfl rfl ?_
            refine ks_iconst (n := 27) S dX5_two_26 rfl (by unfold iv; decide) ?_
            refine ks_icmp_ge (n := 30) (tgt := 115) S dX5_two_27 rfl rfl (fun h27 => ?_) (fun h27 => ?_)
            rotate_left
            · omega
            refine ks_bipush (n := 117) S dX5_two_115 rfl (by unfold iv; decide) ?_
            refine ks_iret S dX5_two_117 ?_
            exact qr_t hR F (by unfold A_two; rw [show m_nt (M 39) a b d = 0 by rw [← e39]; exact hw4, if_neg (by decide)]; refine congrArg (fun z => (z, M)) ?_; unfold m_P; (repeat' split) <;> omega)
          · skip
            refine ks_aload_n (n := 72) S dX5_two_71 rfl rfl ?_
            refine ks_iload_n (n := 73) S dX5_two_72 rfl rfl ?_
            refine ks_iload_n (n := 74) S dX5_two_73 rfl rfl ?_
            refine ks_iload (n := 76) S dX5_two_74 rfl rfl ?_
            refine ks_iload_n (n := 77) S dX5_two_76 rfl rfl ?_
            refine ks_iconst (n := 78) S dX5_two_77 rfl (by unfold iv; decide) ?_
            refine ks_iload (n := 80) S dX5_two_78 rfl rfl ?_
            refine ks_isub (n := 81) S dX5_two_80 rfl (by omega) ?_
            refine ks_iload_n (n := 82) S dX5_two_81 rfl rfl ?_
            refine ks_v6i (n := 85) S dX5_two_82 rfl ml_X5_216 ym_X5_moodBy (ev_X5_moodBy hM (hR.fr F) ht5 (by omega) (by omega) (by omega)) (by decide) rfl (Nat.le_of_ble_eq_true rfl) (fun r82 τ82 q82 => ?_)
            obtain ⟨q1, q2⟩ := q82
            have F := F.tr q2
            cases q1
            rw [if_neg (fun e => hab e.symm)]
            refine ks_aload_n (n := 86) S dX5_two_85 rfl rfl ?_
            refine ks_iload_n (n := 87) S dX5_two_86 rfl rfl ?_
            refine ks_iload_n (n := 88) S dX5_two_87 rfl rfl ?_
            refine ks_iload (n := 90) S dX5_two_88 rfl rfl ?_
            refine ks_iload_n (n := 91) S dX5_two_90 rfl rfl ?_
            refine ks_iload (n := 93) S dX5_two_91 rfl rfl ?_
            refine ks_iload_n (n := 94) S dX5_two_93 rfl rfl ?_
            refine ks_v6i (n := 97) S dX5_two_94 rfl ml_X5_216 ym_X5_moodBy (ev_X5_moodBy hM (hR.fr F) ht5 (by omega) (by omega) (by omega)) (by decide) rfl (Nat.le_of_ble_eq_true rfl) (fun r94 τ94 q94 => ?_)
            obtain ⟨q1, q2⟩ := q94
            have F := F.tr q2
            cases q1
            rw [if_neg (fun e => hab e.symm)]
            refine ks_icmp_lt (n := 100) (tgt := 109) S dX5_two_97 rfl rfl (fun h97 => ?_) (fun h97 => ?_)
            · skip
              refine ks_iinc (n := 112) S dX5_two_109 rfl rfl (by omega) (L' := fun y => [some (kr 38), some (ki a), some (ki b), some (ki d), some (ki (0)), some (ki y), some (ki (1)), some (ki (1))]) (fun _ => rfl) (fun v5_109 hv109 => ?_)
              obtain rfl : v5_109 = 4 := by omega
              refine ks_goto (n := 24) S dX5_two_112 rfl ?_
              refine ks_iload (n := 26) S dX5_two_24 rfl rfl ?_
              refine ks_iconst (n := 27) S dX5_two_26 rfl (by unfold iv; decide) ?_
              refine ks_icmp_ge (n := 30) (tgt := 115) S dX5_two_27 rfl rfl (fun h27 => ?_) (fun h27 => ?_)
              rotate_left
              · omega
              refine ks_bipush (n := 117) S dX5_two_115 rfl (by unfold iv; decide) ?_
              refine ks_iret S dX5_two_117 ?_
              exact qr_t hR F (by unfold A_two; rw [show m_nt (M 39) a b d = 0 by rw [← e39]; exact hw4, if_neg (by decide)]; refine congrArg (fun z => (z, M)) ?_; unfold m_P; (repeat' split) <;> omega)
            · skip
              refine ks_bipush (n := 102) S dX5_two_100 rfl (by unfold iv; decide) ?_
              refine ks_iload (n := 104) S dX5_two_102 rfl rfl ?_
              refine ks_imul (n := 105) S dX5_two_104 rfl (by omega) ?_
              refine ks_iload (n := 107) S dX5_two_105 rfl rfl ?_
              refine ks_iadd (n := 108) S dX5_two_107 rfl (by omega) ?_
              refine ks_iret S dX5_two_108 ?_
              exact qr_t hR F (by unfold A_two; rw [show m_nt (M 39) a b d = 0 by rw [← e39]; exact hw4, if_neg (by decide)]; refine congrArg (fun z => (z, M)) ?_; unfold m_P; (repeat' split) <;> omega)
        · skip
          refine ks_aload_n (n := 72) S dX5_two_71 rfl rfl ?_
          refine ks_iload_n (n := 73) S dX5_two_72 rfl rfl ?_
          refine ks_iload_n (n := 74) S dX5_two_73 rfl rfl ?_
          refine ks_iload (n := 76) S dX5_two_74 rfl rfl ?_
          refine ks_iload_n (n := 77) S dX5_two_76 rfl rfl ?_
          refine ks_iconst (n := 78) S dX5_two_77 rfl (by unfold iv; decide) ?_
          refine ks_iload (n := 80) S dX5_two_78 rfl rfl ?_
          refine ks_isub (n := 81) S dX5_two_80 rfl (by omega) ?_
          refine ks_iload_n (n := 82) S dX5_two_81 rfl rfl ?_
          refine ks_v6i (n := 85) S dX5_two_82 rfl ml_X5_216 ym_X5_moodBy (ev_X5_moodBy hM (hR.fr F) ht5 (by omega) (by omega) (by omega)) (by decide) rfl (Nat.le_of_ble_eq_true rfl) (fun r82 τ82 q82 => ?_)
          obtain ⟨q1, q2⟩ := q82
          have F := F.tr q2
          cases q1
          rw [if_neg (fun e => hab e.symm)]
          refine ks_aload_n (n := 86) S dX5_two_85 rfl rfl ?_
          refine ks_iload_n (n := 87) S dX5_two_86 rfl rfl ?_
          refine ks_iload_n (n := 88) S dX5_two_87 rfl rfl ?_
          refine ks_iload (n := 90) S dX5_two_88 rfl rfl ?_
          refine ks_iload_n (n := 91) S dX5_two_90 rfl rfl ?_
          refine ks_iload (n := 93) S dX5_two_91 rfl rfl ?_
          refine ks_iload_n (n := 94) S dX5_two_93 rfl rfl ?_
          refine ks_v6i (n := 97) S dX5_two_94 rfl ml_X5_216 ym_X5_moodBy (ev_X5_moodBy hM (hR.fr F) ht5 (by omega) (by omega) (by omega)) (by decide) rfl (Nat.le_of_ble_eq_true rfl) (fun r94 τ94 q94 => ?_)
          obtain ⟨q1, q2⟩ := q94
          have F := F.tr q2
          cases q1
          rw [if_neg (fun e => hab e.symm)]
          refine ks_icmp_lt (n := 100) (tgt := 109) S dX5_two_97 rfl rfl (fun h97 => ?_) (fun h97 => ?_)
          · skip
            refine ks_iinc (n := 112) S dX5_two_109 rfl rfl (by omega) (L' := fun y => [some (kr 38), some (ki a), some (ki b), some (ki d), some (ki (0)), some (ki y), some (ki (1)), some (ki (0))]) (fun _ => rfl) (fun v5_109 hv109 => ?_)
            obtain rfl : v5_109 = 3 := by omega
            refine ks_goto (n := 24) S dX5_two_112 rfl ?_
            refine ks_iload (n := 26) S dX5_two_24 rfl rfl ?_
            refine ks_iconst (n := 27) S dX5_two_26 rfl (by unfold iv; decide) ?_
            refine ks_icmp_ge (n := 30) (tgt := 115) S dX5_two_27 rfl rfl (fun h27 => ?_) (fun h27 => ?_)
            · omega
            refine ks_iload (n := 32) S dX5_two_30 rfl rfl ?_
            refine ks_iconst (n := 33) S dX5_two_32 rfl (by unfold iv; decide) ?_
            refine ks_idiv (n := 34) S dX5_two_33 rfl (by omega) ?_
            refine ks_istore (n := 36) S dX5_two_34 rfl (L' := fun y => [some (kr 38), some (ki a), some (ki b), some (ki d), some (ki (0)), some (ki (3)), some (ki y), some (ki (0))]) (Nat.le_of_ble_eq_true rfl) (fun _ => rfl) (fun v6_34 hv34 => ?_)
            obtain rfl : v6_34 = 1 := by omega
            refine ks_iload (n := 38) S dX5_two_36 rfl rfl ?_
            refine ks_iconst (n := 39) S dX5_two_38 rfl (by unfold iv; decide) ?_
            refine ks_irem (n := 40) S dX5_two_39 rfl (by omega) ?_
            refine ks_istore (n := 42) S dX5_two_40 rfl (L' := fun y => [some (kr 38), some (ki a), some (ki b), some (ki d), some (ki (0)), some (ki (3)), some (ki (1)), some (ki y)]) (Nat.le_of_ble_eq_true rfl) (fun _ => rfl) (fun v7_40 hv40 => ?_)
            obtain rfl : v7_40 = 1 := by omega
            refine ks_aload_n (n := 43) S dX5_two_42 rfl rfl ?_
            refine ks_iload_n (n := 44) S dX5_two_43 rfl rfl ?_
            refine ks_iload_n (n := 45) S dX5_two_44 rfl rfl ?_
            refine ks_iconst (n := 46) S dX5_two_45 rfl (by unfold iv; decide) ?_
            refine ks_iload (n := 48) S dX5_two_46 rfl rfl ?_
            refine ks_isub (n := 49) S dX5_two_48 rfl (by omega) ?_
            refine ks_iload_n (n := 50) S dX5_two_49 rfl rfl ?_
            refine ks_iload (n := 52) S dX5_two_50 rfl rfl ?_
            refine ks_iload_n (n := 53) S dX5_two_52 rfl rfl ?_
            refine ks_v6i (n := 56) S dX5_two_53 rfl ml_X5_216 ym_X5_moodBy (ev_X5_moodBy hM (hR.fr F) ht5 (by omega) (by omega) (by omega)) (by decide) rfl (Nat.le_of_ble_eq_true rfl) (fun r53 τ53 q53 => ?_)
            obtain ⟨q1, q2⟩ := q53
            have F := F.tr q2
            cases q1
            rw [if_pos rfl]
            refine ks_aload_n (n := 57) S dX5_two_56 rfl rfl ?_
            refine ks_iload_n (n := 58) S dX5_two_57 rfl rfl ?_
            refine ks_iload_n (n := 59) S dX5_two_58 rfl rfl ?_
            refine ks_iload (n := 61) S dX5_two_59 rfl rfl ?_
            refine ks_iload_n (n := 62) S dX5_two_61 rfl rfl ?_
            refine ks_iload (n := 64) S dX5_two_62 rfl rfl ?_
            refine ks_iload_n (n := 65) S dX5_two_64 rfl rfl ?_
            refine ks_v6i (n := 68) S dX5_two_65 rfl ml_X5_216 ym_X5_moodBy (ev_X5_moodBy hM (hR.fr F) ht5 (by omega) (by omega) (by omega)) (by decide) rfl (Nat.le_of_ble_eq_true rfl) (fun r65 τ65 q65 => ?_)
            obtain ⟨q1, q2⟩ := q65
            have F := F.tr q2
            cases q1
            rw [if_pos rfl]
            refine ks_icmp_lt (n := 71) (tgt := 109) S dX5_two_68 rfl rfl (fun h68 => ?_) (fun h68 => ?_)
            · skip
              refine ks_iinc (n := 112) S dX5_two_109 rfl rfl (by omega) (L' := fun y => [some (kr 38), some (ki a), some (ki b), some (ki d), some (ki (0)), some (ki y), some (ki (1)), some (ki (1))]) (fun _ => rfl) (fun v5_109 hv109 => ?_)
              obtain rfl : v5_109 = 4 := by omega
              refine ks_goto (n := 24) S dX5_two_112 rfl ?_
              refine ks_iload (n := 26) S dX5_two_24 rfl rfl ?_
              refine ks_iconst (n := 27) S dX5_two_26 rfl (by unfold iv; decide) ?_
              refine ks_icmp_ge (n := 30) (tgt := 115) S dX5_two_27 rfl rfl (fun h27 => ?_) (fun h27 => ?_)
              rotate_left
              · omega
              refine ks_bipush (n := 117) S dX5_two_115 rfl (by unfold iv; decide) ?_
              refine ks_iret S dX5_two_117 ?_
              exact qr_t hR F (by unfold A_two; rw [show m_nt (M 39) a b d = 0 by rw [← e39]; exact hw4, if_neg (by decide)]; refine congrArg (fun z => (z, M)) ?_; unfold m_P; (repeat' split) <;> omega)
            · skip
              refine ks_aload_n (n := 72) S dX5_two_71 rfl rfl ?_
              refine ks_iload_n (n := 73) S dX5_two_72 rfl rfl ?_
              refine ks_iload_n (n := 74) S dX5_two_73 rfl rfl ?_
              refine ks_iload (n := 76) S dX5_two_74 rfl rfl ?_
              refine ks_iload_n (n := 77) S dX5_two_76 rfl rfl ?_
              refine ks_iconst (n := 78) S dX5_two_77 rfl (by unfold iv; decide) ?_
              refine ks_iload (n := 80) S dX5_two_78 rfl rfl ?_
              refine ks_isub (n := 81) S dX5_two_80 rfl (by omega) ?_
              refine ks_iload_n (n := 82) S dX5_two_81 rfl rfl ?_
              refine ks_v6i (n := 85) S dX5_two_82 rfl ml_X5_216 ym_X5_moodBy (ev_X5_moodBy hM (hR.fr F) ht5 (by omega) (by omega) (by omega)) (by decide) rfl (Nat.le_of_ble_eq_true rfl) (fun r82 τ82 q82 => ?_)
              obtain ⟨q1, q2⟩ := q82
              have F := F.tr q2
              cases q1
              rw [if_neg (fun e => hab e.symm)]
              refine ks_aload_n (n := 86) S dX5_two_85 rfl rfl ?_
              refine ks_iload_n (n := 87) S dX5_two_86 rfl rfl ?_
              refine ks_iload_n (n := 88) S dX5_two_87 rfl rfl ?_
              refine ks_iload (n := 90) S dX5_two_88 rfl rfl ?_
              refine ks_iload_n (n := 91) S dX5_two_90 rfl rfl ?_
              refine ks_iload (n := 93) S dX5_two_91 rfl rfl ?_
              refine ks_iload_n (n := 94) S dX5_two_93 rfl rfl ?_
              refine ks_v6i (n := 97) S dX5_two_94 rfl ml_X5_216 ym_X5_moodBy (ev_X5_moodBy hM (hR.fr F) ht5 (by omega) (by omega) (by omega)) (by decide) rfl (Nat.le_of_ble_eq_true rfl) (fun r94 τ94 q94 => ?_)
              obtain ⟨q1, q2⟩ := q94
              have F := F.tr q2
              cases q1
              rw [if_neg (fun e => hab e.symm)]
              refine ks_icmp_lt (n := 100) (tgt := 109) S dX5_two_97 rfl rfl (fun h97 => ?_) (fun h97 => ?_)
              · skip
                refine ks_iinc (n := 112) S dX5_two_109 rfl rfl (by omega) (L' := fun y => [some (kr 38), some (ki a), some (ki b), some (ki d), some (ki (0)), some (ki y), some (ki (1)), some (ki (1))]) (fun _ => rfl) (fun v5_109 hv109 => ?_)
                obtain rfl : v5_109 = 4 := by omega
                refine ks_goto (n := 24) S dX5_two_112 rfl ?_
                refine ks_iload (n := 26) S dX5_two_24 rfl rfl ?_
                refine ks_iconst (n := 27) S dX5_two_26 rfl (by unfold iv; decide) ?_
                refine ks_icmp_ge (n := 30) (tgt := 115) S dX5_two_27 rfl rfl (fun h27 => ?_) (fun h27 => ?_)
                rotate_left
                · omega
                refine ks_bipush (n := 117) S dX5_two_115 rfl (by unfold iv; decide) ?_
                refine ks_iret S dX5_two_117 ?_
                exact qr_t hR F (by unfold A_two; rw [show m_nt (M 39) a b d = 0 by rw [← e39]; exact hw4, if_neg (by decide)]; refine congrArg (fun z => (z, M)) ?_; unfold m_P; (repeat' split) <;> omega)
              · skip
                refine ks_bipush (n := 102) S dX5_two_100 rfl (by unfold iv; decide) ?_
                refine ks_iload (n := 104) S dX5_two_102 rfl rfl ?_
                refine ks_imul (n := 105) S dX5_two_104 rfl (by omega) ?_
                refine ks_iload (n := 107) S dX5_two_105 rfl rfl ?_
                refine ks_iadd (n := 108) S dX5_two_107 rfl (by omega) ?_
                refine ks_iret S dX5_two_108 ?_
                exact qr_t hR F (by unfold A_two; rw [show m_nt (M 39) a b d = 0 by rw [← e39]; exact hw4, if_neg (by decide)]; refine congrArg (fun z => (z, M)) ?_; unfold m_P; (repeat' split) <;> omega)
          · skip
            refine ks_bipush (n := 102) S dX5_two_100 rfl (by unfold iv; decide) ?_
            refine ks_iload (n := 104) S dX5_two_102 rfl rfl ?_
            refine ks_imul (n := 105) S dX5_two_104 rfl (by omega) ?_
            refine ks_iload (n := 107) S dX5_two_105 rfl rfl ?_
            refine ks_iadd (n := 108) S dX5_two_107 rfl (by omega) ?_
            refine ks_iret S dX5_two_108 ?_
            exact qr_t hR F (by unfold A_two; rw [show m_nt (M 39) a b d = 0 by rw [← e39]; exact hw4, if_neg (by decide)]; refine congrArg (fun z => (z, M)) ?_; unfold m_P; (repeat' split) <;> omega)
      · skip
        refine ks_aload_n (n := 72) S dX5_two_71 rfl rfl ?_
        refine ks_iload_n (n := 73) S dX5_two_72 rfl rfl ?_
        refine ks_iload_n (n := 74) S dX5_two_73 rfl rfl ?_
        refine ks_iload (n := 76) S dX5_two_74 rfl rfl ?_
        refine ks_iload_n (n := 77) S dX5_two_76 rfl rfl ?_
        refine ks_iconst (n := 78) S dX5_two_77 rfl (by unfold iv; decide) ?_
        refine ks_iload (n := 80) S dX5_two_78 rfl rfl ?_
        refine ks_isub (n := 81) S dX5_two_80 rfl (by omega) ?_
        refine ks_iload_n (n := 82) S dX5_two_81 rfl rfl ?_
        refine ks_v6i (n := 85) S dX5_two_82 rfl ml_X5_216 ym_X5_moodBy (ev_X5_moodBy hM (hR.fr F) ht5 (by omega) (by omega) (by omega)) (by decide) rfl (Nat.le_of_ble_eq_true rfl) (fun r82 τ82 q82 => ?_)
        obtain ⟨q1, q2⟩ := q82
        have F := F.tr q2
        cases q1
        rw [if_neg (fun e => hab e.symm)]
        refine ks_aload_n (n := 86) S dX5_two_85 rfl rfl ?_
        refine ks_iload_n (n := 87) S dX5_two_86 rfl rfl ?_
        refine ks_iload_n (n := 88) S dX5_two_87 rfl rfl ?_
        refine ks_iload (n := 90) S dX5_two_88 rfl rfl ?_
        refine ks_iload_n (n := 91) S dX5_two_90 rfl rfl ?_
        refine ks_iload (n := 93) S dX5_two_91 rfl rfl ?_
        refine ks_iload_n (n := 94) S dX5_two_93 rfl rfl ?_
        refine ks_v6i (n := 97) S dX5_two_94 rfl ml_X5_216 ym_X5_moodBy (ev_X5_moodBy hM (hR.fr F) ht5 (by omega) (by omega) (by omega)) (by decide) rfl (Nat.le_of_ble_eq_true rfl) (fun r94 τ94 q94 => ?_)
        obtain ⟨q1, q2⟩ := q94
        have F := F.tr q2
        cases q1
        rw [if_neg (fun e => hab e.symm)]
        refine ks_icmp_lt (n := 100) (tgt := 109) S dX5_two_97 rfl rfl (fun h97 => ?_) (fun h97 => ?_)
        · skip
          refine ks_iinc (n := 112) S dX5_two_109 rfl rfl (by omega) (L' := fun y => [some (kr 38), some (ki a), some (ki b), some (ki d), some (ki (0)), some (ki y), some (ki (0)), some (ki (1))]) (fun _ => rfl) (fun v5_109 hv109 => ?_)
          obtain rfl : v5_109 = 2 := by omega
          refine ks_goto (n := 24) S dX5_two_112 rfl ?_
          refine ks_iload (n := 26) S dX5_two_24 rfl rfl ?_
          refine ks_iconst (n := 27) S dX5_two_26 rfl (by unfold iv; decide) ?_
          refine ks_icmp_ge (n := 30) (tgt := 115) S dX5_two_27 rfl rfl (fun h27 => ?_) (fun h27 => ?_)
          · omega
          refine ks_iload (n := 32) S dX5_two_30 rfl rfl ?_
          refine ks_iconst (n := 33) S dX5_two_32 rfl (by unfold iv; decide) ?_
          refine ks_idiv (n := 34) S dX5_two_33 rfl (by omega) ?_
          refine ks_istore (n := 36) S dX5_two_34 rfl (L' := fun y => [some (kr 38), some (ki a), some (ki b), some (ki d), some (ki (0)), some (ki (2)), some (ki y), some (ki (1))]) (Nat.le_of_ble_eq_true rfl) (fun _ => rfl) (fun v6_34 hv34 => ?_)
          obtain rfl : v6_34 = 1 := by omega
          refine ks_iload (n := 38) S dX5_two_36 rfl rfl ?_
          refine ks_iconst (n := 39) S dX5_two_38 rfl (by unfold iv; decide) ?_
          refine ks_irem (n := 40) S dX5_two_39 rfl (by omega) ?_
          refine ks_istore (n := 42) S dX5_two_40 rfl (L' := fun y => [some (kr 38), some (ki a), some (ki b), some (ki d), some (ki (0)), some (ki (2)), some (ki (1)), some (ki y)]) (Nat.le_of_ble_eq_true rfl) (fun _ => rfl) (fun v7_40 hv40 => ?_)
          obtain rfl : v7_40 = 0 := by omega
          refine ks_aload_n (n := 43) S dX5_two_42 rfl rfl ?_
          refine ks_iload_n (n := 44) S dX5_two_43 rfl rfl ?_
          refine ks_iload_n (n := 45) S dX5_two_44 rfl rfl ?_
          refine ks_iconst (n := 46) S dX5_two_45 rfl (by unfold iv; decide) ?_
          refine ks_iload (n := 48) S dX5_two_46 rfl rfl ?_
          refine ks_isub (n := 49) S dX5_two_48 rfl (by omega) ?_
          refine ks_iload_n (n := 50) S dX5_two_49 rfl rfl ?_
          refine ks_iload (n := 52) S dX5_two_50 rfl rfl ?_
          refine ks_iload_n (n := 53) S dX5_two_52 rfl rfl ?_
          refine ks_v6i (n := 56) S dX5_two_53 rfl ml_X5_216 ym_X5_moodBy (ev_X5_moodBy hM (hR.fr F) ht5 (by omega) (by omega) (by omega)) (by decide) rfl (Nat.le_of_ble_eq_true rfl) (fun r53 τ53 q53 => ?_)
          obtain ⟨q1, q2⟩ := q53
          have F := F.tr q2
          cases q1
          rw [if_pos rfl]
          refine ks_aload_n (n := 57) S dX5_two_56 rfl rfl ?_
          refine ks_iload_n (n := 58) S dX5_two_57 rfl rfl ?_
          refine ks_iload_n (n := 59) S dX5_two_58 rfl rfl ?_
          refine ks_iload (n := 61) S dX5_two_59 rfl rfl ?_
          refine ks_iload_n (n := 62) S dX5_two_61 rfl rfl ?_
          refine ks_iload (n := 64) S dX5_two_62 rfl rfl ?_
          refine ks_iload_n (n := 65) S dX5_two_64 rfl rfl ?_
          refine ks_v6i (n := 68) S dX5_two_65 rfl ml_X5_216 ym_X5_moodBy (ev_X5_moodBy hM (hR.fr F) ht5 (by omega) (by omega) (by omega)) (by decide) rfl (Nat.le_of_ble_eq_true rfl) (fun r65 τ65 q65 => ?_)
          obtain ⟨q1, q2⟩ := q65
          have F := F.tr q2
          cases q1
          rw [if_pos rfl]
          refine ks_icmp_lt (n := 71) (tgt := 109) S dX5_two_68 rfl rfl (fun h68 => ?_) (fun h68 => ?_)
          · skip
            refine ks_iinc (n := 112) S dX5_two_109 rfl rfl (by omega) (L' := fun y => [some (kr 38), some (ki a), some (ki b), some (ki d), some (ki (0)), some (ki y), some (ki (1)), some (ki (0))]) (fun _ => rfl) (fun v5_109 hv109 => ?_)
            obtain rfl : v5_109 = 3 := by omega
            refine ks_goto (n := 24) S dX5_two_112 rfl ?_
            refine ks_iload (n := 26) S dX5_two_24 rfl rfl ?_
            refine ks_iconst (n := 27) S dX5_two_26 rfl (by unfold iv; decide) ?_
            refine ks_icmp_ge (n := 30) (tgt := 115) S dX5_two_27 rfl rfl (fun h27 => ?_) (fun h27 => ?_)
            · omega
            refine ks_iload (n := 32) S dX5_two_30 rfl rfl ?_
            refine ks_iconst (n := 33) S dX5_two_32 rfl (by unfold iv; decide) ?_
            refine ks_idiv (n := 34) S dX5_two_33 rfl (by omega) ?_
            refine ks_istore (n := 36) S dX5_two_34 rfl (L' := fun y => [some (kr 38), some (ki a), some (ki b), some (ki d), some (ki (0)), some (ki (3)), some (ki y), some (ki (0))]) (Nat.le_of_ble_eq_true rfl) (fun _ => rfl) (fun v6_34 hv34 => ?_)
            obtain rfl : v6_34 = 1 := by omega
            refine ks_iload (n := 38) S dX5_two_36 rfl rfl ?_
            refine ks_iconst (n := 39) S dX5_two_38 rfl (by unfold iv; decide) ?_
            refine ks_irem (n := 40) S dX5_two_39 rfl (by omega) ?_
            refine ks_istore (n := 42) S dX5_two_40 rfl (L' := fun y => [some (kr 38), some (ki a), some (ki b), some (ki d), some (ki (0)), some (ki (3)), some (ki (1)), some (ki y)]) (Nat.le_of_ble_eq_true rfl) (fun _ => rfl) (fun v7_40 hv40 => ?_)
            obtain rfl : v7_40 = 1 := by omega
            refine ks_aload_n (n := 43) S dX5_two_42 rfl rfl ?_
            refine ks_iload_n (n := 44) S dX5_two_43 rfl rfl ?_
            refine ks_iload_n (n := 45) S dX5_two_44 rfl rfl ?_
            refine ks_iconst (n := 46) S dX5_two_45 rfl (by unfold iv; decide) ?_
            refine ks_iload (n := 48) S dX5_two_46 rfl rfl ?_
            refine ks_isub (n := 49) S dX5_two_48 rfl (by omega) ?_
            refine ks_iload_n (n := 50) S dX5_two_49 rfl rfl ?_
            refine ks_iload (n := 52) S dX5_two_50 rfl rfl ?_
            refine ks_iload_n (n := 53) S dX5_two_52 rfl rfl ?_
            refine ks_v6i (n := 56) S dX5_two_53 rfl ml_X5_216 ym_X5_moodBy (ev_X5_moodBy hM (hR.fr F) ht5 (by omega) (by omega) (by omega)) (by decide) rfl (Nat.le_of_ble_eq_true rfl) (fun r53 τ53 q53 => ?_)
            obtain ⟨q1, q2⟩ := q53
            have F := F.tr q2
            cases q1
            rw [if_pos rfl]
            refine ks_aload_n (n := 57) S dX5_two_56 rfl rfl ?_
            refine ks_iload_n (n := 58) S dX5_two_57 rfl rfl ?_
            refine ks_iload_n (n := 59) S dX5_two_58 rfl rfl ?_
            refine ks_iload (n := 61) S dX5_two_59 rfl rfl ?_
            refine ks_iload_n (n := 62) S dX5_two_61 rfl rfl ?_
            refine ks_iload (n := 64) S dX5_two_62 rfl rfl ?_
            refine ks_iload_n (n := 65) S dX5_two_64 rfl rfl ?_
            refine ks_v6i (n := 68) S dX5_two_65 rfl ml_X5_216 ym_X5_moodBy (ev_X5_moodBy hM (hR.fr F) ht5 (by omega) (by omega) (by omega)) (by decide) rfl (Nat.le_of_ble_eq_true rfl) (fun r65 τ65 q65 => ?_)
            obtain ⟨q1, q2⟩ := q65
            have F := F.tr q2
            cases q1
            rw [if_pos rfl]
            refine ks_icmp_lt (n := 71) (tgt := 109) S dX5_two_68 rfl rfl (fun h68 => ?_) (fun h68 => ?_)
            · skip
              refine ks_iinc (n := 112) S dX5_two_109 rfl rfl (by omega) (L' := fun y => [some (kr 38), some (ki a), some (ki b), some (ki d), some (ki (0)), some (ki y), some (ki (1)), some (ki (1))]) (fun _ => rfl) (fun v5_109 hv109 => ?_)
              obtain rfl : v5_109 = 4 := by omega
              refine ks_goto (n := 24) S dX5_two_112 rfl ?_
              refine ks_iload (n := 26) S dX5_two_24 rfl rfl ?_
              refine ks_iconst (n := 27) S dX5_two_26 rfl (by unfold iv; decide) ?_
              refine ks_icmp_ge (n := 30) (tgt := 115) S dX5_two_27 rfl rfl (fun h27 => ?_) (fun h27 => ?_)
              rotate_left
              · omega
              refine ks_bipush (n := 117) S dX5_two_115 rfl (by unfold iv; decide) ?_
              refine ks_iret S dX5_two_117 ?_
              exact qr_t hR F (by unfold A_two; rw [show m_nt (M 39) a b d = 0 by rw [← e39]; exact hw4, if_neg (by decide)]; refine congrArg (fun z => (z, M)) ?_; unfold m_P; (repeat' split) <;> omega)
            · skip
              refine ks_aload_n (n := 72) S dX5_two_71 rfl rfl ?_
              refine ks_iload_n (n := 73) S dX5_two_72 rfl rfl ?_
              refine ks_iload_n (n := 74) S dX5_two_73 rfl rfl ?_
              refine ks_iload (n := 76) S dX5_two_74 rfl rfl ?_
              refine ks_iload_n (n := 77) S dX5_two_76 rfl rfl ?_
              refine ks_iconst (n := 78) S dX5_two_77 rfl (by unfold iv; decide) ?_
              refine ks_iload (n := 80) S dX5_two_78 rfl rfl ?_
              refine ks_isub (n := 81) S dX5_two_80 rfl (by omega) ?_
              refine ks_iload_n (n := 82) S dX5_two_81 rfl rfl ?_
              refine ks_v6i (n := 85) S dX5_two_82 rfl ml_X5_216 ym_X5_moodBy (ev_X5_moodBy hM (hR.fr F) ht5 (by omega) (by omega) (by omega)) (by decide) rfl (Nat.le_of_ble_eq_true rfl) (fun r82 τ82 q82 => ?_)
              obtain ⟨q1, q2⟩ := q82
              have F := F.tr q2
              cases q1
              rw [if_neg (fun e => hab e.symm)]
              refine ks_aload_n (n := 86) S dX5_two_85 rfl rfl ?_
              refine ks_iload_n (n := 87) S dX5_two_86 rfl rfl ?_
              refine ks_iload_n (n := 88) S dX5_two_87 rfl rfl ?_
              refine ks_iload (n := 90) S dX5_two_88 rfl rfl ?_
              refine ks_iload_n (n := 91) S dX5_two_90 rfl rfl ?_
              refine ks_iload (n := 93) S dX5_two_91 rfl rfl ?_
              refine ks_iload_n (n := 94) S dX5_two_93 rfl rfl ?_
              refine ks_v6i (n := 97) S dX5_two_94 rfl ml_X5_216 ym_X5_moodBy (ev_X5_moodBy hM (hR.fr F) ht5 (by omega) (by omega) (by omega)) (by decide) rfl (Nat.le_of_ble_eq_true rfl) (fun r94 τ94 q94 => ?_)
              obtain ⟨q1, q2⟩ := q94
              have F := F.tr q2
              cases q1
              rw [if_neg (fun e => hab e.symm)]
              refine ks_icmp_lt (n := 100) (tgt := 109) S dX5_two_97 rfl rfl (fun h97 => ?_) (fun h97 => ?_)
              · skip
                refine ks_iinc (n := 112) S dX5_two_109 rfl rfl (by omega) (L' := fun y => [some (kr 38), some (ki a), some (ki b), some (ki d), some (ki (0)), some (ki y), some (ki (1)), some (ki (1))]) (fun _ => rfl) (fun v5_109 hv109 => ?_)
                obtain rfl : v5_109 = 4 := by omega
                refine ks_goto (n := 24) S dX5_two_112 rfl ?_
                refine ks_iload (n := 26) S dX5_two_24 rfl rfl ?_
                refine ks_iconst (n := 27) S dX5_two_26 rfl (by unfold iv; decide) ?_
                refine ks_icmp_ge (n := 30) (tgt := 115) S dX5_two_27 rfl rfl (fun h27 => ?_) (fun h27 => ?_)
                rotate_left
                · omega
                refine ks_bipush (n := 117) S dX5_two_115 rfl (by unfold iv; decide) ?_
                refine ks_iret S dX5_two_117 ?_
                exact qr_t hR F (by unfold A_two; rw [show m_nt (M 39) a b d = 0 by rw [← e39]; exact hw4, if_neg (by decide)]; refine congrArg (fun z => (z, M)) ?_; unfold m_P; (repeat' split) <;> omega)
              · skip
                refine ks_bipush (n := 102) S dX5_two_100 rfl (by unfold iv; decide) ?_
                refine ks_iload (n := 104) S dX5_two_102 rfl rfl ?_
                refine ks_imul (n := 105) S dX5_two_104 rfl (by omega) ?_
                refine ks_iload (n := 107) S dX5_two_105 rfl rfl ?_
                refine ks_iadd (n := 108) S dX5_two_107 rfl (by omega) ?_
                refine ks_iret S dX5_two_108 ?_
                exact qr_t hR F (by unfold A_two; rw [show m_nt (M 39) a b d = 0 by rw [← e39]; exact hw4, if_neg (by decide)]; refine congrArg (fun z => (z, M)) ?_; unfold m_P; (repeat' split) <;> omega)
          · skip
            refine ks_aload_n (n := 72) S dX5_two_71 rfl rfl ?_
            refine ks_iload_n (n := 73) S dX5_two_72 rfl rfl ?_
            refine ks_iload_n (n := 74) S dX5_two_73 rfl rfl ?_
            refine ks_iload (n := 76) S dX5_two_74 rfl rfl ?_
            refine ks_iload_n (n := 77) S dX5_two_76 rfl rfl ?_
            refine ks_iconst (n := 78) S dX5_two_77 rfl (by unfold iv; decide) ?_
            refine ks_iload (n := 80) S dX5_two_78 rfl rfl ?_
            refine ks_isub (n := 81) S dX5_two_80 rfl (by omega) ?_
            refine ks_iload_n (n := 82) S dX5_two_81 rfl rfl ?_
            refine ks_v6i (n := 85) S dX5_two_82 rfl ml_X5_216 ym_X5_moodBy (ev_X5_moodBy hM (hR.fr F) ht5 (by omega) (by omega) (by omega)) (by decide) rfl (Nat.le_of_ble_eq_true rfl) (fun r82 τ82 q82 => ?_)
            obtain ⟨q1, q2⟩ := q82
            have F := F.tr q2
            cases q1
            rw [if_neg (fun e => hab e.symm)]
            refine ks_aload_n (n := 86) S dX5_two_85 rfl rfl ?_
            refine ks_iload_n (n := 87) S dX5_two_86 rfl rfl ?_
            refine ks_iload_n (n := 88) S dX5_two_87 rfl rfl ?_
            refine ks_iload (n := 90) S dX5_two_88 rfl rfl ?_
            refine ks_iload_n (n := 91) S dX5_two_90 rfl rfl ?_
            refine ks_iload (n := 93) S dX5_two_91 rfl rfl ?_
            refine ks_iload_n (n := 94) S dX5_two_93 rfl rfl ?_
            refine ks_v6i (n := 97) S dX5_two_94 rfl ml_X5_216 ym_X5_moodBy (ev_X5_moodBy hM (hR.fr F) ht5 (by omega) (by omega) (by omega)) (by decide) rfl (Nat.le_of_ble_eq_true rfl) (fun r94 τ94 q94 => ?_)
            obtain ⟨q1, q2⟩ := q94
            have F := F.tr q2
            cases q1
            rw [if_neg (fun e => hab e.symm)]
            refine ks_icmp_lt (n := 100) (tgt := 109) S dX5_two_97 rfl rfl (fun h97 => ?_) (fun h97 => ?_)
            · skip
              refine ks_iinc (n := 112) S dX5_two_109 rfl rfl (by omega) (L' := fun y => [some (kr 38), some (ki a), some (ki b), some (ki d), some (ki (0)), some (ki y), some (ki (1)), some (ki (0))]) (fun _ => rfl) (fun v5_109 hv109 => ?_)
              obtain rfl : v5_109 = 3 := by omega
              refine ks_goto (n := 24) S dX5_two_112 rfl ?_
              refine ks_iload (n := 26) S dX5_two_24 rfl rfl ?_
              refine ks_iconst (n := 27) S dX5_two_26 rfl (by unfold iv; decide) ?_
              refine ks_icmp_ge (n := 30) (tgt := 115) S dX5_two_27 rfl rfl (fun h27 => ?_) (fun h27 => ?_)
              · omega
              refine ks_iload (n := 32) S dX5_two_30 rfl rfl ?_
              refine ks_iconst (n := 33) S dX5_two_32 rfl (by unfold iv; decide) ?_
              refine ks_idiv (n := 34) S dX5_two_33 rfl (by omega) ?_
              refine ks_istore (n := 36) S dX5_two_34 rfl (L' := fun y => [some (kr 38), some (ki a), some (ki b), some (ki d), some (ki (0)), some (ki (3)), some (ki y), some (ki (0))]) (Nat.le_of_ble_eq_true rfl) (fun _ => rfl) (fun v6_34 hv34 => ?_)
              obtain rfl : v6_34 = 1 := by omega
              refine ks_iload (n := 38) S dX5_two_36 rfl rfl ?_
              refine ks_iconst (n := 39) S dX5_two_38 rfl (by unfold iv; decide) ?_
              refine ks_irem (n := 40) S dX5_two_39 rfl (by omega) ?_
              refine ks_istore (n := 42) S dX5_two_40 rfl (L' := fun y => [some (kr 38), some (ki a), some (ki b), some (ki d), some (ki (0)), some (ki (3)), some (ki (1)), some (ki y)]) (Nat.le_of_ble_eq_true rfl) (fun _ => rfl) (fun v7_40 hv40 => ?_)
              obtain rfl : v7_40 = 1 := by omega
              refine ks_aload_n (n := 43) S dX5_two_42 rfl rfl ?_
              refine ks_iload_n (n := 44) S dX5_two_43 rfl rfl ?_
              refine ks_iload_n (n := 45) S dX5_two_44 rfl rfl ?_
              refine ks_iconst (n := 46) S dX5_two_45 rfl (by unfold iv; decide) ?_
              refine ks_iload (n := 48) S dX5_two_46 rfl rfl ?_
              refine ks_isub (n := 49) S dX5_two_48 rfl (by omega) ?_
              refine ks_iload_n (n := 50) S dX5_two_49 rfl rfl ?_
              refine ks_iload (n := 52) S dX5_two_50 rfl rfl ?_
              refine ks_iload_n (n := 53) S dX5_two_52 rfl rfl ?_
              refine ks_v6i (n := 56) S dX5_two_53 rfl ml_X5_216 ym_X5_moodBy (ev_X5_moodBy hM (hR.fr F) ht5 (by omega) (by omega) (by omega)) (by decide) rfl (Nat.le_of_ble_eq_true rfl) (fun r53 τ53 q53 => ?_)
              obtain ⟨q1, q2⟩ := q53
              have F := F.tr q2
              cases q1
              rw [if_pos rfl]
              refine ks_aload_n (n := 57) S dX5_two_56 rfl rfl ?_
              refine ks_iload_n (n := 58) S dX5_two_57 rfl rfl ?_
              refine ks_iload_n (n := 59) S dX5_two_58 rfl rfl ?_
              refine ks_iload (n := 61) S dX5_two_59 rfl rfl ?_
              refine ks_iload_n (n := 62) S dX5_two_61 rfl rfl ?_
              refine ks_iload (n := 64) S dX5_two_62 rfl rfl ?_
              refine ks_iload_n (n := 65) S dX5_two_64 rfl rfl ?_
              refine ks_v6i (n := 68) S dX5_two_65 rfl ml_X5_216 ym_X5_moodBy (ev_X5_moodBy hM (hR.fr F) ht5 (by omega) (by omega) (by omega)) (by decide) rfl (Nat.le_of_ble_eq_true rfl) (fun r65 τ65 q65 => ?_)
              obtain ⟨q1, q2⟩ := q65
              have F := F.tr q2
              cases q1
              rw [if_pos rfl]
              refine ks_icmp_lt (n := 71) (tgt := 109) S dX5_two_68 rfl rfl (fun h68 => ?_) (fun h68 => ?_)
              · skip
                refine ks_iinc (n := 112) S dX5_two_109 rfl rfl (by omega) (L' := fun y => [some (kr 38), some (ki a), some (ki b), some (ki d), some (ki (0)), some (ki y), some (ki (1)), some (ki (1))]) (fun _ => rfl) (fun v5_109 hv109 => ?_)
                obtain rfl : v5_109 = 4 := by omega
                refine ks_goto (n := 24) S dX5_two_112 rfl ?_
                refine ks_iload (n := 26) S dX5_two_24 rfl rfl ?_
                refine ks_iconst (n := 27) S dX5_two_26 rfl (by unfold iv; decide) ?_
                refine ks_icmp_ge (n := 30) (tgt := 115) S dX5_two_27 rfl rfl (fun h27 => ?_) (fun h27 => ?_)
                rotate_left
                · omega
                refine ks_bipush (n := 117) S dX5_two_115 rfl (by unfold iv; decide) ?_
                refine ks_iret S dX5_two_117 ?_
                exact qr_t hR F (by unfold A_two; rw [show m_nt (M 39) a b d = 0 by rw [← e39]; exact hw4, if_neg (by decide)]; refine congrArg (fun z => (z, M)) ?_; unfold m_P; (repeat' split) <;> omega)
              · skip
                refine ks_aload_n (n := 72) S dX5_two_71 rfl rfl ?_
                refine ks_iload_n (n := 73) S dX5_two_72 rfl rfl ?_
                refine ks_iload_n (n := 74) S dX5_two_73 rfl rfl ?_
                refine ks_iload (n := 76) S dX5_two_74 rfl rfl ?_
                refine ks_iload_n (n := 77) S dX5_two_76 rfl rfl ?_
                refine ks_iconst (n := 78) S dX5_two_77 rfl (by unfold iv; decide) ?_
                refine ks_iload (n := 80) S dX5_two_78 rfl rfl ?_
                refine ks_isub (n := 81) S dX5_two_80 rfl (by omega) ?_
                refine ks_iload_n (n := 82) S dX5_two_81 rfl rfl ?_
                refine ks_v6i (n := 85) S dX5_two_82 rfl ml_X5_216 ym_X5_moodBy (ev_X5_moodBy hM (hR.fr F) ht5 (by omega) (by omega) (by omega)) (by decide) rfl (Nat.le_of_ble_eq_true rfl) (fun r82 τ82 q82 => ?_)
                obtain ⟨q1, q2⟩ := q82
                have F := F.tr q2
                cases q1
                rw [if_neg (fun e => hab e.symm)]
                refine ks_aload_n (n := 86) S dX5_two_85 rfl rfl ?_
                refine ks_iload_n (n := 87) S dX5_two_86 rfl rfl ?_
                refine ks_iload_n (n := 88) S dX5_two_87 rfl rfl ?_
                refine ks_iload (n := 90) S dX5_two_88 rfl rfl ?_
                refine ks_iload_n (n := 91) S dX5_two_90 rfl rfl ?_
                refine ks_iload (n := 93) S dX5_two_91 rfl rfl ?_
                refine ks_iload_n (n := 94) S dX5_two_93 rfl rfl ?_
                refine ks_v6i (n := 97) S dX5_two_94 rfl ml_X5_216 ym_X5_moodBy (ev_X5_moodBy hM (hR.fr F) ht5 (by omega) (by omega) (by omega)) (by decide) rfl (Nat.le_of_ble_eq_true rfl) (fun r94 τ94 q94 => ?_)
                obtain ⟨q1, q2⟩ := q94
                have F := F.tr q2
                cases q1
                rw [if_neg (fun e => hab e.symm)]
                refine ks_icmp_lt (n := 100) (tgt := 109) S dX5_two_97 rfl rfl (fun h97 => ?_) (fun h97 => ?_)
                · skip
                  refine ks_iinc (n := 112) S dX5_two_109 rfl rfl (by omega) (L' := fun y => [some (kr 38), some (ki a), some (ki b), some (ki d), some (ki (0)), some (ki y), some (ki (1)), some (ki (1))]) (fun _ => rfl) (fun v5_109 hv109 => ?_)
                  obtain rfl : v5_109 = 4 := by omega
                  refine ks_goto (n := 24) S dX5_two_112 rfl ?_
                  refine ks_iload (n := 26) S dX5_two_24 rfl rfl ?_
                  refine ks_iconst (n := 27) S dX5_two_26 rfl (by unfold iv; decide) ?_
                  refine ks_icmp_ge (n := 30) (tgt := 115) S dX5_two_27 rfl rfl (fun h27 => ?_) (fun h27 => ?_)
                  rotate_left
                  · omega
                  refine ks_bipush (n := 117) S dX5_two_115 rfl (by unfold iv; decide) ?_
                  refine ks_iret S dX5_two_117 ?_
                  exact qr_t hR F (by unfold A_two; rw [show m_nt (M 39) a b d = 0 by rw [← e39]; exact hw4, if_neg (by decide)]; refine congrArg (fun z => (z, M)) ?_; unfold m_P; (repeat' split) <;> omega)
                · skip
                  refine ks_bipush (n := 102) S dX5_two_100 rfl (by unfold iv; decide) ?_
                  refine ks_iload (n := 104) S dX5_two_102 rfl rfl ?_
                  refine ks_imul (n := 105) S dX5_two_104 rfl (by omega) ?_
                  refine ks_iload (n := 107) S dX5_two_105 rfl rfl ?_
                  refine ks_iadd (n := 108) S dX5_two_107 rfl (by omega) ?_
                  refine ks_iret S dX5_two_108 ?_
                  exact qr_t hR F (by unfold A_two; rw [show m_nt (M 39) a b d = 0 by rw [← e39]; exact hw4, if_neg (by decide)]; refine congrArg (fun z => (z, M)) ?_; unfold m_P; (repeat' split) <;> omega)
            · skip
              refine ks_bipush (n := 102) S dX5_two_100 rfl (by unfold iv; decide) ?_
              refine ks_iload (n := 104) S dX5_two_102 rfl rfl ?_
              refine ks_imul (n := 105) S dX5_two_104 rfl (by omega) ?_
              refine ks_iload (n := 107) S dX5_two_105 rfl rfl ?_
              refine ks_iadd (n := 108) S dX5_two_107 rfl (by omega) ?_
              refine ks_iret S dX5_two_108 ?_
              exact qr_t hR F (by unfold A_two; rw [show m_nt (M 39) a b d = 0 by rw [← e39]; exact hw4, if_neg (by decide)]; refine congrArg (fun z => (z, M)) ?_; unfold m_P; (repeat' split) <;> omega)
        · skip
          refine ks_bipush (n := 102) S dX5_two_100 rfl (by unfold iv; decide) ?_
          refine ks_iload (n := 104) S dX5_two_102 rfl rfl ?_
          refine ks_imul (n := 105) S dX5_two_104 rfl (by omega) ?_
          refine ks_iload (n := 107) S dX5_two_105 rfl rfl ?_
          refine ks_iadd (n := 108) S dX5_two_107 rfl (by omega) ?_
          refine ks_iret S dX5_two_108 ?_
          exact qr_t hR F (by unfold A_two; rw [show m_nt (M 39) a b d = 0 by rw [← e39]; exact hw4, if_neg (by decide)]; refine congrArg (fun z => (z, M)) ?_; unfold m_P; (repeat' split) <;> omega)
    · skip
      refine ks_aload_n (n := 72) S dX5_two_71 rfl rfl ?_
      refine ks_iload_n (n := 73) S dX5_two_72 rfl rfl ?_
      refine ks_iload_n (n := 74) S dX5_two_73 rfl rfl ?_
      refine ks_iload (n := 76) S dX5_two_74 rfl rfl ?_
      refine ks_iload_n (n := 77) S dX5_two_76 rfl rfl ?_
      refine ks_iconst (n := 78) S dX5_two_77 rfl (by unfold iv; decide) ?_
      refine ks_iload (n := 80) S dX5_two_78 rfl rfl ?_
      refine ks_isub (n := 81) S dX5_two_80 rfl (by omega) ?_
      refine ks_iload_n (n := 82) S dX5_two_81 rfl rfl ?_
      refine ks_v6i (n := 85) S dX5_two_82 rfl ml_X5_216 ym_X5_moodBy (ev_X5_moodBy hM (hR.fr F) ht5 (by omega) (by omega) (by omega)) (by decide) rfl (Nat.le_of_ble_eq_true rfl) (fun r82 τ82 q82 => ?_)
      obtain ⟨q1, q2⟩ := q82
      have F := F.tr q2
      cases q1
      rw [if_neg (fun e => hab e.symm)]
      refine ks_aload_n (n := 86) S dX5_two_85 rfl rfl ?_
      refine ks_iload_n (n := 87) S dX5_two_86 rfl rfl ?_
      refine ks_iload_n (n := 88) S dX5_two_87 rfl rfl ?_
      refine ks_iload (n := 90) S dX5_two_88 rfl rfl ?_
      refine ks_iload_n (n := 91) S dX5_two_90 rfl rfl ?_
      refine ks_iload (n := 93) S dX5_two_91 rfl rfl ?_
      refine ks_iload_n (n := 94) S dX5_two_93 rfl rfl ?_
      refine ks_v6i (n := 97) S dX5_two_94 rfl ml_X5_216 ym_X5_moodBy (ev_X5_moodBy hM (hR.fr F) ht5 (by omega) (by omega) (by omega)) (by decide) rfl (Nat.le_of_ble_eq_true rfl) (fun r94 τ94 q94 => ?_)
      obtain ⟨q1, q2⟩ := q94
      have F := F.tr q2
      cases q1
      rw [if_neg (fun e => hab e.symm)]
      refine ks_icmp_lt (n := 100) (tgt := 109) S dX5_two_97 rfl rfl (fun h97 => ?_) (fun h97 => ?_)
      · skip
        refine ks_iinc (n := 112) S dX5_two_109 rfl rfl (by omega) (L' := fun y => [some (kr 38), some (ki a), some (ki b), some (ki d), some (ki (0)), some (ki y), some (ki (0)), some (ki (0))]) (fun _ => rfl) (fun v5_109 hv109 => ?_)
        obtain rfl : v5_109 = 1 := by omega
        refine ks_goto (n := 24) S dX5_two_112 rfl ?_
        refine ks_iload (n := 26) S dX5_two_24 rfl rfl ?_
        refine ks_iconst (n := 27) S dX5_two_26 rfl (by unfold iv; decide) ?_
        refine ks_icmp_ge (n := 30) (tgt := 115) S dX5_two_27 rfl rfl (fun h27 => ?_) (fun h27 => ?_)
        · omega
        refine ks_iload (n := 32) S dX5_two_30 rfl rfl ?_
        refine ks_iconst (n := 33) S dX5_two_32 rfl (by unfold iv; decide) ?_
        refine ks_idiv (n := 34) S dX5_two_33 rfl (by omega) ?_
        refine ks_istore (n := 36) S dX5_two_34 rfl (L' := fun y => [some (kr 38), some (ki a), some (ki b), some (ki d), some (ki (0)), some (ki (1)), some (ki y), some (ki (0))]) (Nat.le_of_ble_eq_true rfl) (fun _ => rfl) (fun v6_34 hv34 => ?_)
        obtain rfl : v6_34 = 0 := by omega
        refine ks_iload (n := 38) S dX5_two_36 rfl rfl ?_
        refine ks_iconst (n := 39) S dX5_two_38 rfl (by unfold iv; decide) ?_
        refine ks_irem (n := 40) S dX5_two_39 rfl (by omega) ?_
        refine ks_istore (n := 42) S dX5_two_40 rfl (L' := fun y => [some (kr 38), some (ki a), some (ki b), some (ki d), some (ki (0)), some (ki (1)), some (ki (0)), some (ki y)]) (Nat.le_of_ble_eq_true rfl) (fun _ => rfl) (fun v7_40 hv40 => ?_)
        obtain rfl : v7_40 = 1 := by omega
        refine ks_aload_n (n := 43) S dX5_two_42 rfl rfl ?_
        refine ks_iload_n (n := 44) S dX5_two_43 rfl rfl ?_
        refine ks_iload_n (n := 45) S dX5_two_44 rfl rfl ?_
        refine ks_iconst (n := 46) S dX5_two_45 rfl (by unfold iv; decide) ?_
        refine ks_iload (n := 48) S dX5_two_46 rfl rfl ?_
        refine ks_isub (n := 49) S dX5_two_48 rfl (by omega) ?_
        refine ks_iload_n (n := 50) S dX5_two_49 rfl rfl ?_
        refine ks_iload (n := 52) S dX5_two_50 rfl rfl ?_
        refine ks_iload_n (n := 53) S dX5_two_52 rfl rfl ?_
        refine ks_v6i (n := 56) S dX5_two_53 rfl ml_X5_216 ym_X5_moodBy (ev_X5_moodBy hM (hR.fr F) ht5 (by omega) (by omega) (by omega)) (by decide) rfl (Nat.le_of_ble_eq_true rfl) (fun r53 τ53 q53 => ?_)
        obtain ⟨q1, q2⟩ := q53
        have F := F.tr q2
        cases q1
        rw [if_pos rfl]
        refine ks_aload_n (n := 57) S dX5_two_56 rfl rfl ?_
        refine ks_iload_n (n := 58) S dX5_two_57 rfl rfl ?_
        refine ks_iload_n (n := 59) S dX5_two_58 rfl rfl ?_
        refine ks_iload (n := 61) S dX5_two_59 rfl rfl ?_
        refine ks_iload_n (n := 62) S dX5_two_61 rfl rfl ?_
        refine ks_iload (n := 64) S dX5_two_62 rfl rfl ?_
        refine ks_iload_n (n := 65) S dX5_two_64 rfl rfl ?_
        refine ks_v6i (n := 68) S dX5_two_65 rfl ml_X5_216 ym_X5_moodBy (ev_X5_moodBy hM (hR.fr F) ht5 (by omega) (by omega) (by omega)) (by decide) rfl (Nat.le_of_ble_eq_true rfl) (fun r65 τ65 q65 => ?_)
        obtain ⟨q1, q2⟩ := q65
        have F := F.tr q2
        cases q1
        rw [if_pos rfl]
        refine ks_icmp_lt (n := 71) (tgt := 109) S dX5_two_68 rfl rfl (fun h68 => ?_) (fun h68 => ?_)
        · skip
          refine ks_iinc (n := 112) S dX5_two_109 rfl rfl (by omega) (L' := fun y => [some (kr 38), some (ki a), some (ki b), some (ki d), some (ki (0)), some (ki y), some (ki (0)), some (ki (1))]) (fun _ => rfl) (fun v5_109 hv109 => ?_)
          obtain rfl : v5_109 = 2 := by omega
          refine ks_goto (n := 24) S dX5_two_112 rfl ?_
          refine ks_iload (n := 26) S dX5_two_24 rfl rfl ?_
          refine ks_iconst (n := 27) S dX5_two_26 rfl (by unfold iv; decide) ?_
          refine ks_icmp_ge (n := 30) (tgt := 115) S dX5_two_27 rfl rfl (fun h27 => ?_) (fun h27 => ?_)
          · omega
          refine ks_iload (n := 32) S dX5_two_30 rfl rfl ?_
          refine ks_iconst (n := 33) S dX5_two_32 rfl (by unfold iv; decide) ?_
          refine ks_idiv (n := 34) S dX5_two_33 rfl (by omega) ?_
          refine ks_istore (n := 36) S dX5_two_34 rfl (L' := fun y => [some (kr 38), some (ki a), some (ki b), some (ki d), some (ki (0)), some (ki (2)), some (ki y), some (ki (1))]) (Nat.le_of_ble_eq_true rfl) (fun _ => rfl) (fun v6_34 hv34 => ?_)
          obtain rfl : v6_34 = 1 := by omega
          refine ks_iload (n := 38) S dX5_two_36 rfl rfl ?_
          refine ks_iconst (n := 39) S dX5_two_38 rfl (by unfold iv; decide) ?_
          refine ks_irem (n := 40) S dX5_two_39 rfl (by omega) ?_
          refine ks_istore (n := 42) S dX5_two_40 rfl (L' := fun y => [some (kr 38), some (ki a), some (ki b), some (ki d), some (ki (0)), some (ki (2)), some (ki (1)), some (ki y)]) (Nat.le_of_ble_eq_true rfl) (fun _ => rfl) (fun v7_40 hv40 => ?_)
          obtain rfl : v7_40 = 0 := by omega
          refine ks_aload_n (n := 43) S dX5_two_42 rfl rfl ?_
          refine ks_iload_n (n := 44) S dX5_two_43 rfl rfl ?_
          refine ks_iload_n (n := 45) S dX5_two_44 rfl rfl ?_
          refine ks_iconst (n := 46) S dX5_two_45 rfl (by unfold iv; decide) ?_
          refine ks_iload (n := 48) S dX5_two_46 rfl rfl ?_
          refine ks_isub (n := 49) S dX5_two_48 rfl (by omega) ?_
          refine ks_iload_n (n := 50) S dX5_two_49 rfl rfl ?_
          refine ks_iload (n := 52) S dX5_two_50 rfl rfl ?_
          refine ks_iload_n (n := 53) S dX5_two_52 rfl rfl ?_
          refine ks_v6i (n := 56) S dX5_two_53 rfl ml_X5_216 ym_X5_moodBy (ev_X5_moodBy hM (hR.fr F) ht5 (by omega) (by omega) (by omega)) (by decide) rfl (Nat.le_of_ble_eq_true rfl) (fun r53 τ53 q53 => ?_)
          obtain ⟨q1, q2⟩ := q53
          have F := F.tr q2
          cases q1
          rw [if_pos rfl]
          refine ks_aload_n (n := 57) S dX5_two_56 rfl rfl ?_
          refine ks_iload_n (n := 58) S dX5_two_57 rfl rfl ?_
          refine ks_iload_n (n := 59) S dX5_two_58 rfl rfl ?_
          refine ks_iload (n := 61) S dX5_two_59 rfl rfl ?_
          refine ks_iload_n (n := 62) S dX5_two_61 rfl rfl ?_
          refine ks_iload (n := 64) S dX5_two_62 rfl rfl ?_
          refine ks_iload_n (n := 65) S dX5_two_64 rfl rfl ?_
          refine ks_v6i (n := 68) S dX5_two_65 rfl ml_X5_216 ym_X5_moodBy (ev_X5_moodBy hM (hR.fr F) ht5 (by omega) (by omega) (by omega)) (by decide) rfl (Nat.le_of_ble_eq_true rfl) (fun r65 τ65 q65 => ?_)
          obtain ⟨q1, q2⟩ := q65
          have F := F.tr q2
          cases q1
          rw [if_pos rfl]
          refine ks_icmp_lt (n := 71) (tgt := 109) S dX5_two_68 rfl rfl (fun h68 => ?_) (fun h68 => ?_)
          · skip
            refine ks_iinc (n := 112) S dX5_two_109 rfl rfl (by omega) (L' := fun y => [some (kr 38), some (ki a), some (ki b), some (ki d), some (ki (0)), some (ki y), some (ki (1)), some (ki (0))]) (fun _ => rfl) (fun v5_109 hv109 => ?_)
            obtain rfl : v5_109 = 3 := by omega
            refine ks_goto (n := 24) S dX5_two_112 rfl ?_
            refine ks_iload (n := 26) S dX5_two_24 rfl rfl ?_
            refine ks_iconst (n := 27) S dX5_two_26 rfl (by unfold iv; decide) ?_
            refine ks_icmp_ge (n := 30) (tgt := 115) S dX5_two_27 rfl rfl (fun h27 => ?_) (fun h27 => ?_)
            · omega
            refine ks_iload (n := 32) S dX5_two_30 rfl rfl ?_
            refine ks_iconst (n := 33) S dX5_two_32 rfl (by unfold iv; decide) ?_
            refine ks_idiv (n := 34) S dX5_two_33 rfl (by omega) ?_
            refine ks_istore (n := 36) S dX5_two_34 rfl (L' := fun y => [some (kr 38), some (ki a), some (ki b), some (ki d), some (ki (0)), some (ki (3)), some (ki y), some (ki (0))]) (Nat.le_of_ble_eq_true rfl) (fun _ => rfl) (fun v6_34 hv34 => ?_)
            obtain rfl : v6_34 = 1 := by omega
            refine ks_iload (n := 38) S dX5_two_36 rfl rfl ?_
            refine ks_iconst (n := 39) S dX5_two_38 rfl (by unfold iv; decide) ?_
            refine ks_irem (n := 40) S dX5_two_39 rfl (by omega) ?_
            refine ks_istore (n := 42) S dX5_two_40 rfl (L' := fun y => [some (kr 38), some (ki a), some (ki b), some (ki d), some (ki (0)), some (ki (3)), some (ki (1)), some (ki y)]) (Nat.le_of_ble_eq_true rfl) (fun _ => rfl) (fun v7_40 hv40 => ?_)
            obtain rfl : v7_40 = 1 := by omega
            refine ks_aload_n (n := 43) S dX5_two_42 rfl rfl ?_
            refine ks_iload_n (n := 44) S dX5_two_43 rfl rfl ?_
            refine ks_iload_n (n := 45) S dX5_two_44 rfl rfl ?_
            refine ks_iconst (n := 46) S dX5_two_45 rfl (by unfold iv; decide) ?_
            refine ks_iload (n := 48) S dX5_two_46 rfl rfl ?_
            refine ks_isub (n := 49) S dX5_two_48 rfl (by omega) ?_
            refine ks_iload_n (n := 50) S dX5_two_49 rfl rfl ?_
            refine ks_iload (n := 52) S dX5_two_50 rfl rfl ?_
            refine ks_iload_n (n := 53) S dX5_two_52 rfl rfl ?_
            refine ks_v6i (n := 56) S dX5_two_53 rfl ml_X5_216 ym_X5_moodBy (ev_X5_moodBy hM (hR.fr F) ht5 (by omega) (by omega) (by omega)) (by decide) rfl (Nat.le_of_ble_eq_true rfl) (fun r53 τ53 q53 => ?_)
            obtain ⟨q1, q2⟩ := q53
            have F := F.tr q2
            cases q1
            rw [if_pos rfl]
            refine ks_aload_n (n := 57) S dX5_two_56 rfl rfl ?_
            refine ks_iload_n (n := 58) S dX5_two_57 rfl rfl ?_
            refine ks_iload_n (n := 59) S dX5_two_58 rfl rfl ?_
            refine ks_iload (n := 61) S dX5_two_59 rfl rfl ?_
            refine ks_iload_n (n := 62) S dX5_two_61 rfl rfl ?_
            refine ks_iload (n := 64) S dX5_two_62 rfl rfl ?_
            refine ks_iload_n (n := 65) S dX5_two_64 rfl rfl ?_
            refine ks_v6i (n := 68) S dX5_two_65 rfl ml_X5_216 ym_X5_moodBy (ev_X5_moodBy hM (hR.fr F) ht5 (by omega) (by omega) (by omega)) (by decide) rfl (Nat.le_of_ble_eq_true rfl) (fun r65 τ65 q65 => ?_)
            obtain ⟨q1, q2⟩ := q65
            have F := F.tr q2
            cases q1
            rw [if_pos rfl]
            refine ks_icmp_lt (n := 71) (tgt := 109) S dX5_two_68 rfl rfl (fun h68 => ?_) (fun h68 => ?_)
            · skip
              refine ks_iinc (n := 112) S dX5_two_109 rfl rfl (by omega) (L' := fun y => [some (kr 38), some (ki a), some (ki b), some (ki d), some (ki (0)), some (ki y), some (ki (1)), some (ki (1))]) (fun _ => rfl) (fun v5_109 hv109 => ?_)
              obtain rfl : v5_109 = 4 := by omega
              refine ks_goto (n := 24) S dX5_two_112 rfl ?_
              refine ks_iload (n := 26) S dX5_two_24 rfl rfl ?_
              refine ks_iconst (n := 27) S dX5_two_26 rfl (by unfold iv; decide) ?_
              refine ks_icmp_ge (n := 30) (tgt := 115) S dX5_two_27 rfl rfl (fun h27 => ?_) (fun h27 => ?_)
              rotate_left
              · omega
              refine ks_bipush (n := 117) S dX5_two_115 rfl (by unfold iv; decide) ?_
              refine ks_iret S dX5_two_117 ?_
              exact qr_t hR F (by unfold A_two; rw [show m_nt (M 39) a b d = 0 by rw [← e39]; exact hw4, if_neg (by decide)]; refine congrArg (fun z => (z, M)) ?_; unfold m_P; (repeat' split) <;> omega)
            · skip
              refine ks_aload_n (n := 72) S dX5_two_71 rfl rfl ?_
              refine ks_iload_n (n := 73) S dX5_two_72 rfl rfl ?_
              refine ks_iload_n (n := 74) S dX5_two_73 rfl rfl ?_
              refine ks_iload (n := 76) S dX5_two_74 rfl rfl ?_
              refine ks_iload_n (n := 77) S dX5_two_76 rfl rfl ?_
              refine ks_iconst (n := 78) S dX5_two_77 rfl (by unfold iv; decide) ?_
              refine ks_iload (n := 80) S dX5_two_78 rfl rfl ?_
              refine ks_isub (n := 81) S dX5_two_80 rfl (by omega) ?_
              refine ks_iload_n (n := 82) S dX5_two_81 rfl rfl ?_
              refine ks_v6i (n := 85) S dX5_two_82 rfl ml_X5_216 ym_X5_moodBy (ev_X5_moodBy hM (hR.fr F) ht5 (by omega) (by omega) (by omega)) (by decide) rfl (Nat.le_of_ble_eq_true rfl) (fun r82 τ82 q82 => ?_)
              obtain ⟨q1, q2⟩ := q82
              have F := F.tr q2
              cases q1
              rw [if_neg (fun e => hab e.symm)]
              refine ks_aload_n (n := 86) S dX5_two_85 rfl rfl ?_
              refine ks_iload_n (n := 87) S dX5_two_86 rfl rfl ?_
              refine ks_iload_n (n := 88) S dX5_two_87 rfl rfl ?_
              refine ks_iload (n := 90) S dX5_two_88 rfl rfl ?_
              refine ks_iload_n (n := 91) S dX5_two_90 rfl rfl ?_
              refine ks_iload (n := 93) S dX5_two_91 rfl rfl ?_
              refine ks_iload_n (n := 94) S dX5_two_93 rfl rfl ?_
              refine ks_v6i (n := 97) S dX5_two_94 rfl ml_X5_216 ym_X5_moodBy (ev_X5_moodBy hM (hR.fr F) ht5 (by omega) (by omega) (by omega)) (by decide) rfl (Nat.le_of_ble_eq_true rfl) (fun r94 τ94 q94 => ?_)
              obtain ⟨q1, q2⟩ := q94
              have F := F.tr q2
              cases q1
              rw [if_neg (fun e => hab e.symm)]
              refine ks_icmp_lt (n := 100) (tgt := 109) S dX5_two_97 rfl rfl (fun h97 => ?_) (fun h97 => ?_)
              · skip
                refine ks_iinc (n := 112) S dX5_two_109 rfl rfl (by omega) (L' := fun y => [some (kr 38), some (ki a), some (ki b), some (ki d), some (ki (0)), some (ki y), some (ki (1)), some (ki (1))]) (fun _ => rfl) (fun v5_109 hv109 => ?_)
                obtain rfl : v5_109 = 4 := by omega
                refine ks_goto (n := 24) S dX5_two_112 rfl ?_
                refine ks_iload (n := 26) S dX5_two_24 rfl rfl ?_
                refine ks_iconst (n := 27) S dX5_two_26 rfl (by unfold iv; decide) ?_
                refine ks_icmp_ge (n := 30) (tgt := 115) S dX5_two_27 rfl rfl (fun h27 => ?_) (fun h27 => ?_)
                rotate_left
                · omega
                refine ks_bipush (n := 117) S dX5_two_115 rfl (by unfold iv; decide) ?_
                refine ks_iret S dX5_two_117 ?_
                exact qr_t hR F (by unfold A_two; rw [show m_nt (M 39) a b d = 0 by rw [← e39]; exact hw4, if_neg (by decide)]; refine congrArg (fun z => (z, M)) ?_; unfold m_P; (repeat' split) <;> omega)
              · skip
                refine ks_bipush (n := 102) S dX5_two_100 rfl (by unfold iv; decide) ?_
                refine ks_iload (n := 104) S dX5_two_102 rfl rfl ?_
                refine ks_imul (n := 105) S dX5_two_104 rfl (by omega) ?_
                refine ks_iload (n := 107) S dX5_two_105 rfl rfl ?_
                refine ks_iadd (n := 108) S dX5_two_107 rfl (by omega) ?_
                refine ks_iret S dX5_two_108 ?_
                exact qr_t hR F (by unfold A_two; rw [show m_nt (M 39) a b d = 0 by rw [← e39]; exact hw4, if_neg (by decide)]; refine congrArg (fun z => (z, M)) ?_; unfold m_P; (repeat' split) <;> omega)
          · skip
            refine ks_aload_n (n := 72) S dX5_two_71 rfl rfl ?_
            refine ks_iload_n (n := 73) S dX5_two_72 rfl rfl ?_
            refine ks_iload_n (n := 74) S dX5_two_73 rfl rfl ?_
            refine ks_iload (n := 76) S dX5_two_74 rfl rfl ?_
            refine ks_iload_n (n := 77) S dX5_two_76 rfl rfl ?_
            refine ks_iconst (n := 78) S dX5_two_77 rfl (by unfold iv; decide) ?_
            refine ks_iload (n := 80) S dX5_two_78 rfl rfl ?_
            refine ks_isub (n := 81) S dX5_two_80 rfl (by omega) ?_
            refine ks_iload_n (n := 82) S dX5_two_81 rfl rfl ?_
            refine ks_v6i (n := 85) S dX5_two_82 rfl ml_X5_216 ym_X5_moodBy (ev_X5_moodBy hM (hR.fr F) ht5 (by omega) (by omega) (by omega)) (by decide) rfl (Nat.le_of_ble_eq_true rfl) (fun r82 τ82 q82 => ?_)
            obtain ⟨q1, q2⟩ := q82
            have F := F.tr q2
            cases q1
            rw [if_neg (fun e => hab e.symm)]
            refine ks_aload_n (n := 86) S dX5_two_85 rfl rfl ?_
            refine ks_iload_n (n := 87) S dX5_two_86 rfl rfl ?_
            refine ks_iload_n (n := 88) S dX5_two_87 rfl rfl ?_
            refine ks_iload (n := 90) S dX5_two_88 rfl rfl ?_
            refine ks_iload_n (n := 91) S dX5_two_90 rfl rfl ?_
            refine ks_iload (n := 93) S dX5_two_91 rfl rfl ?_
            refine ks_iload_n (n := 94) S dX5_two_93 rfl rfl ?_
            refine ks_v6i (n := 97) S dX5_two_94 rfl ml_X5_216 ym_X5_moodBy (ev_X5_moodBy hM (hR.fr F) ht5 (by omega) (by omega) (by omega)) (by decide) rfl (Nat.le_of_ble_eq_true rfl) (fun r94 τ94 q94 => ?_)
            obtain ⟨q1, q2⟩ := q94
            have F := F.tr q2
            cases q1
            rw [if_neg (fun e => hab e.symm)]
            refine ks_icmp_lt (n := 100) (tgt := 109) S dX5_two_97 rfl rfl (fun h97 => ?_) (fun h97 => ?_)
            · skip
              refine ks_iinc (n := 112) S dX5_two_109 rfl rfl (by omega) (L' := fun y => [some (kr 38), some (ki a), some (ki b), some (ki d), some (ki (0)), some (ki y), some (ki (1)), some (ki (0))]) (fun _ => rfl) (fun v5_109 hv109 => ?_)
              obtain rfl : v5_109 = 3 := by omega
              refine ks_goto (n := 24) S dX5_two_112 rfl ?_
              refine ks_iload (n := 26) S dX5_two_24 rfl rfl ?_
              refine ks_iconst (n := 27) S dX5_two_26 rfl (by unfold iv; decide) ?_
              refine ks_icmp_ge (n := 30) (tgt := 115) S dX5_two_27 rfl rfl (fun h27 => ?_) (fun h27 => ?_)
              · omega
              refine ks_iload (n := 32) S dX5_two_30 rfl rfl ?_
              refine ks_iconst (n := 33) S dX5_two_32 rfl (by unfold iv; decide) ?_
              refine ks_idiv (n := 34) S dX5_two_33 rfl (by omega) ?_
              refine ks_istore (n := 36) S dX5_two_34 rfl (L' := fun y => [some (kr 38), some (ki a), some (ki b), some (ki d), some (ki (0)), some (ki (3)), some (ki y), some (ki (0))]) (Nat.le_of_ble_eq_true rfl) (fun _ => rfl) (fun v6_34 hv34 => ?_)
              obtain rfl : v6_34 = 1 := by omega
              refine ks_iload (n := 38) S dX5_two_36 rfl rfl ?_
              refine ks_iconst (n := 39) S dX5_two_38 rfl (by unfold iv; decide) ?_
              refine ks_irem (n := 40) S dX5_two_39 rfl (by omega) ?_
              refine ks_istore (n := 42) S dX5_two_40 rfl (L' := fun y => [some (kr 38), some (ki a), some (ki b), some (ki d), some (ki (0)), some (ki (3)), some (ki (1)), some (ki y)]) (Nat.le_of_ble_eq_true rfl) (fun _ => rfl) (fun v7_40 hv40 => ?_)
              obtain rfl : v7_40 = 1 := by omega
              refine ks_aload_n (n := 43) S dX5_two_42 rfl rfl ?_
              refine ks_iload_n (n := 44) S dX5_two_43 rfl rfl ?_
              refine ks_iload_n (n := 45) S dX5_two_44 rfl rfl ?_
              refine ks_iconst (n := 46) S dX5_two_45 rfl (by unfold iv; decide) ?_
              refine ks_iload (n := 48) S dX5_two_46 rfl rfl ?_
              refine ks_isub (n := 49) S dX5_two_48 rfl (by omega) ?_
              refine ks_iload_n (n := 50) S dX5_two_49 rfl rfl ?_
              refine ks_iload (n := 52) S dX5_two_50 rfl rfl ?_
              refine ks_iload_n (n := 53) S dX5_two_52 rfl rfl ?_
              refine ks_v6i (n := 56) S dX5_two_53 rfl ml_X5_216 ym_X5_moodBy (ev_X5_moodBy hM (hR.fr F) ht5 (by omega) (by omega) (by omega)) (by decide) rfl (Nat.le_of_ble_eq_true rfl) (fun r53 τ53 q53 => ?_)
              obtain ⟨q1, q2⟩ := q53
              have F := F.tr q2
              cases q1
              rw [if_pos rfl]
              refine ks_aload_n (n := 57) S dX5_two_56 rfl rfl ?_
              refine ks_iload_n (n := 58) S dX5_two_57 rfl rfl ?_
              refine ks_iload_n (n := 59) S dX5_two_58 rfl rfl ?_
              refine ks_iload (n := 61) S dX5_two_59 rfl rfl ?_
              refine ks_iload_n (n := 62) S dX5_two_61 rfl rfl ?_
              refine ks_iload (n := 64) S dX5_two_62 rfl rfl ?_
              refine ks_iload_n (n := 65) S dX5_two_64 rfl rfl ?_
              refine ks_v6i (n := 68) S dX5_two_65 rfl ml_X5_216 ym_X5_moodBy (ev_X5_moodBy hM (hR.fr F) ht5 (by omega) (by omega) (by omega)) (by decide) rfl (Nat.le_of_ble_eq_true rfl) (fun r65 τ65 q65 => ?_)
              obtain ⟨q1, q2⟩ := q65
              have F := F.tr q2
              cases q1
              rw [if_pos rfl]
              refine ks_icmp_lt (n := 71) (tgt := 109) S dX5_two_68 rfl rfl (fun h68 => ?_) (fun h68 => ?_)
              · skip
                refine ks_iinc (n := 112) S dX5_two_109 rfl rfl (by omega) (L' := fun y => [some (kr 38), some (ki a), some (ki b), some (ki d), some (ki (0)), some (ki y), some (ki (1)), some (ki (1))]) (fun _ => rfl) (fun v5_109 hv109 => ?_)
                obtain rfl : v5_109 = 4 := by omega
                refine ks_goto (n := 24) S dX5_two_112 rfl ?_
                refine ks_iload (n := 26) S dX5_two_24 rfl rfl ?_
                refine ks_iconst (n := 27) S dX5_two_26 rfl (by unfold iv; decide) ?_
                refine ks_icmp_ge (n := 30) (tgt := 115) S dX5_two_27 rfl rfl (fun h27 => ?_) (fun h27 => ?_)
                rotate_left
                · omega
                refine ks_bipush (n := 117) S dX5_two_115 rfl (by unfold iv; decide) ?_
                refine ks_iret S dX5_two_117 ?_
                exact qr_t hR F (by unfold A_two; rw [show m_nt (M 39) a b d = 0 by rw [← e39]; exact hw4, if_neg (by decide)]; refine congrArg (fun z => (z, M)) ?_; unfold m_P; (repeat' split) <;> omega)
              · skip
                refine ks_aload_n (n := 72) S dX5_two_71 rfl rfl ?_
                refine ks_iload_n (n := 73) S dX5_two_72 rfl rfl ?_
                refine ks_iload_n (n := 74) S dX5_two_73 rfl rfl ?_
                refine ks_iload (n := 76) S dX5_two_74 rfl rfl ?_
                refine ks_iload_n (n := 77) S dX5_two_76 rfl rfl ?_
                refine ks_iconst (n := 78) S dX5_two_77 rfl (by unfold iv; decide) ?_
                refine ks_iload (n := 80) S dX5_two_78 rfl rfl ?_
                refine ks_isub (n := 81) S dX5_two_80 rfl (by omega) ?_
                refine ks_iload_n (n := 82) S dX5_two_81 rfl rfl ?_
                refine ks_v6i (n := 85) S dX5_two_82 rfl ml_X5_216 ym_X5_moodBy (ev_X5_moodBy hM (hR.fr F) ht5 (by omega) (by omega) (by omega)) (by decide) rfl (Nat.le_of_ble_eq_true rfl) (fun r82 τ82 q82 => ?_)
                obtain ⟨q1, q2⟩ := q82
                have F := F.tr q2
                cases q1
                rw [if_neg (fun e => hab e.symm)]
                refine ks_aload_n (n := 86) S dX5_two_85 rfl rfl ?_
                refine ks_iload_n (n := 87) S dX5_two_86 rfl rfl ?_
                refine ks_iload_n (n := 88) S dX5_two_87 rfl rfl ?_
                refine ks_iload (n := 90) S dX5_two_88 rfl rfl ?_
                refine ks_iload_n (n := 91) S dX5_two_90 rfl rfl ?_
                refine ks_iload (n := 93) S dX5_two_91 rfl rfl ?_
                refine ks_iload_n (n := 94) S dX5_two_93 rfl rfl ?_
                refine ks_v6i (n := 97) S dX5_two_94 rfl ml_X5_216 ym_X5_moodBy (ev_X5_moodBy hM (hR.fr F) ht5 (by omega) (by omega) (by omega)) (by decide) rfl (Nat.le_of_ble_eq_true rfl) (fun r94 τ94 q94 => ?_)
                obtain ⟨q1, q2⟩ := q94
                have F := F.tr q2
                cases q1
                rw [if_neg (fun e => hab e.symm)]
                refine ks_icmp_lt (n := 100) (tgt := 109) S dX5_two_97 rfl rfl (fun h97 => ?_) (fun h97 => ?_)
                · skip
                  refine ks_iinc (n := 112) S dX5_two_109 rfl rfl (by omega) (L' := fun y => [some (kr 38), some (ki a), some (ki b), some (ki d), some (ki (0)), some (ki y), some (ki (1)), some (ki (1))]) (fun _ => rfl) (fun v5_109 hv109 => ?_)
                  obtain rfl : v5_109 = 4 := by omega
                  refine ks_goto (n := 24) S dX5_two_112 rfl ?_
                  refine ks_iload (n := 26) S dX5_two_24 rfl rfl ?_
                  refine ks_iconst (n := 27) S dX5_two_26 rfl (by unfold iv; decide) ?_
                  refine ks_icmp_ge (n := 30) (tgt := 115) S dX5_two_27 rfl rfl (fun h27 => ?_) (fun h27 => ?_)
                  rotate_left
                  · omega
                  refine ks_bipush (n := 117) S dX5_two_115 rfl (by unfold iv; decide) ?_
                  refine ks_iret S dX5_two_117 ?_
                  exact qr_t hR F (by unfold A_two; rw [show m_nt (M 39) a b d = 0 by rw [← e39]; exact hw4, if_neg (by decide)]; refine congrArg (fun z => (z, M)) ?_; unfold m_P; (repeat' split) <;> omega)
                · skip
                  refine ks_bipush (n := 102) S dX5_two_100 rfl (by unfold iv; decide) ?_
                  refine ks_iload (n := 104) S dX5_two_102 rfl rfl ?_
                  refine ks_imul (n := 105) S dX5_two_104 rfl (by omega) ?_
                  refine ks_iload (n := 107) S dX5_two_105 rfl rfl ?_
                  refine ks_iadd (n := 108) S dX5_two_107 rfl (by omega) ?_
                  refine ks_iret S dX5_two_108 ?_
                  exact qr_t hR F (by unfold A_two; rw [show m_nt (M 39) a b d = 0 by rw [← e39]; exact hw4, if_neg (by decide)]; refine congrArg (fun z => (z, M)) ?_; unfold m_P; (repeat' split) <;> omega)
            · skip
              refine ks_bipush (n := 102) S dX5_two_100 rfl (by unfold iv; decide) ?_
              refine ks_iload (n := 104) S dX5_two_102 rfl rfl ?_
              refine ks_imul (n := 105) S dX5_two_104 rfl (by omega) ?_
              refine ks_iload (n := 107) S dX5_two_105 rfl rfl ?_
              refine ks_iadd (n := 108) S dX5_two_107 rfl (by omega) ?_
              refine ks_iret S dX5_two_108 ?_
              exact qr_t hR F (by unfold A_two; rw [show m_nt (M 39) a b d = 0 by rw [← e39]; exact hw4, if_neg (by decide)]; refine congrArg (fun z => (z, M)) ?_; unfold m_P; (repeat' split) <;> omega)
        · skip
          refine ks_aload_n (n := 72) S dX5_two_71 rfl rfl ?_
          refine ks_iload_n (n := 73) S dX5_two_72 rfl rfl ?_
          refine ks_iload_n (n := 74) S dX5_two_73 rfl rfl ?_
          refine ks_iload (n := 76) S dX5_two_74 rfl rfl ?_
          refine ks_iload_n (n := 77) S dX5_two_76 rfl rfl ?_
          refine ks_iconst (n := 78) S dX5_two_77 rfl (by unfold iv; decide) ?_
          refine ks_iload (n := 80) S dX5_two_78 rfl rfl ?_
          refine ks_isub (n := 81) S dX5_two_80 rfl (by omega) ?_
          refine ks_iload_n (n := 82) S dX5_two_81 rfl rfl ?_
          refine ks_v6i (n := 85) S dX5_two_82 rfl ml_X5_216 ym_X5_moodBy (ev_X5_moodBy hM (hR.fr F) ht5 (by omega) (by omega) (by omega)) (by decide) rfl (Nat.le_of_ble_eq_true rfl) (fun r82 τ82 q82 => ?_)
          obtain ⟨q1, q2⟩ := q82
          have F := F.tr q2
          cases q1
          rw [if_neg (fun e => hab e.symm)]
          refine ks_aload_n (n := 86) S dX5_two_85 rfl rfl ?_
          refine ks_iload_n (n := 87) S dX5_two_86 rfl rfl ?_
          refine ks_iload_n (n := 88) S dX5_two_87 rfl rfl ?_
          refine ks_iload (n := 90) S dX5_two_88 rfl rfl ?_
          refine ks_iload_n (n := 91) S dX5_two_90 rfl rfl ?_
          refine ks_iload (n := 93) S dX5_two_91 rfl rfl ?_
          refine ks_iload_n (n := 94) S dX5_two_93 rfl rfl ?_
          refine ks_v6i (n := 97) S dX5_two_94 rfl ml_X5_216 ym_X5_moodBy (ev_X5_moodBy hM (hR.fr F) ht5 (by omega) (by omega) (by omega)) (by decide) rfl (Nat.le_of_ble_eq_true rfl) (fun r94 τ94 q94 => ?_)
          obtain ⟨q1, q2⟩ := q94
          have F := F.tr q2
          cases q1
          rw [if_neg (fun e => hab e.symm)]
          refine ks_icmp_lt (n := 100) (tgt := 109) S dX5_two_97 rfl rfl (fun h97 => ?_) (fun h97 => ?_)
          · skip
            refine ks_iinc (n := 112) S dX5_two_109 rfl rfl (by omega) (L' := fun y => [some (kr 38), some (ki a), some (ki b), some (ki d), some (ki (0)), some (ki y), some (ki (0)), some (ki (1))]) (fun _ => rfl) (fun v5_109 hv109 => ?_)
            obtain rfl : v5_109 = 2 := by omega
            refine ks_goto (n := 24) S dX5_two_112 rfl ?_
            refine ks_iload (n := 26) S dX5_two_24 rfl rfl ?_
            refine ks_iconst (n := 27) S dX5_two_26 rfl (by unfold iv; decide) ?_
            refine ks_icmp_ge (n := 30) (tgt := 115) S dX5_two_27 rfl rfl (fun h27 => ?_) (fun h27 => ?_)
            · omega
            refine ks_iload (n := 32) S dX5_two_30 rfl rfl ?_
            refine ks_iconst (n := 33) S dX5_two_32 rfl (by unfold iv; decide) ?_
            refine ks_idiv (n := 34) S dX5_two_33 rfl (by omega) ?_
            refine ks_istore (n := 36) S dX5_two_34 rfl (L' := fun y => [some (kr 38), some (ki a), some (ki b), some (ki d), some (ki (0)), some (ki (2)), some (ki y), some (ki (1))]) (Nat.le_of_ble_eq_true rfl) (fun _ => rfl) (fun v6_34 hv34 => ?_)
            obtain rfl : v6_34 = 1 := by omega
            refine ks_iload (n := 38) S dX5_two_36 rfl rfl ?_
            refine ks_iconst (n := 39) S dX5_two_38 rfl (by unfold iv; decide) ?_
            refine ks_irem (n := 40) S dX5_two_39 rfl (by omega) ?_
            refine ks_istore (n := 42) S dX5_two_40 rfl (L' := fun y => [some (kr 38), some (ki a), some (ki b), some (ki d), some (ki (0)), some (ki (2)), some (ki (1)), some (ki y)]) (Nat.le_of_ble_eq_true rfl) (fun _ => rfl) (fun v7_40 hv40 => ?_)
            obtain rfl : v7_40 = 0 := by omega
            refine ks_aload_n (n := 43) S dX5_two_42 rfl rfl ?_
            refine ks_iload_n (n := 44) S dX5_two_43 rfl rfl ?_
            refine ks_iload_n (n := 45) S dX5_two_44 rfl rfl ?_
            refine ks_iconst (n := 46) S dX5_two_45 rfl (by unfold iv; decide) ?_
            refine ks_iload (n := 48) S dX5_two_46 rfl rfl ?_
            refine ks_isub (n := 49) S dX5_two_48 rfl (by omega) ?_
            refine ks_iload_n (n := 50) S dX5_two_49 rfl rfl ?_
            refine ks_iload (n := 52) S dX5_two_50 rfl rfl ?_
            refine ks_iload_n (n := 53) S dX5_two_52 rfl rfl ?_
            refine ks_v6i (n := 56) S dX5_two_53 rfl ml_X5_216 ym_X5_moodBy (ev_X5_moodBy hM (hR.fr F) ht5 (by omega) (by omega) (by omega)) (by decide) rfl (Nat.le_of_ble_eq_true rfl) (fun r53 τ53 q53 => ?_)
            obtain ⟨q1, q2⟩ := q53
            have F := F.tr q2
            cases q1
            rw [if_pos rfl]
            refine ks_aload_n (n := 57) S dX5_two_56 rfl rfl ?_
            refine ks_iload_n (n := 58) S dX5_two_57 rfl rfl ?_
            refine ks_iload_n (n := 59) S dX5_two_58 rfl rfl ?_
            refine ks_iload (n := 61) S dX5_two_59 rfl rfl ?_
            refine ks_iload_n (n := 62) S dX5_two_61 rfl rfl ?_
            refine ks_iload (n := 64) S dX5_two_62 rfl rfl ?_
            refine ks_iload_n (n := 65) S dX5_two_64 rfl rfl ?_
            refine ks_v6i (n := 68) S dX5_two_65 rfl ml_X5_216 ym_X5_moodBy (ev_X5_moodBy hM (hR.fr F) ht5 (by omega) (by omega) (by omega)) (by decide) rfl (Nat.le_of_ble_eq_true rfl) (fun r65 τ65 q65 => ?_)
            obtain ⟨q1, q2⟩ := q65
            have F := F.tr q2
            cases q1
            rw [if_pos rfl]
            refine ks_icmp_lt (n := 71) (tgt := 109) S dX5_two_68 rfl rfl (fun h68 => ?_) (fun h68 => ?_)
            · skip
              refine ks_iinc (n := 112) S dX5_two_109 rfl rfl (by omega) (L' := fun y => [some (kr 38), some (ki a), some (ki b), some (ki d), some (ki (0)), some (ki y), some (ki (1)), some (ki (0))]) (fun _ => rfl) (fun v5_109 hv109 => ?_)
              obtain rfl : v5_109 = 3 := by omega
              refine ks_goto (n := 24) S dX5_two_112 rfl ?_
              refine ks_iload (n := 26) S dX5_two_24 rfl rfl ?_
              refine ks_iconst (n := 27) S dX5_two_26 rfl (by unfold iv; decide) ?_
              refine ks_icmp_ge (n := 30) (tgt := 115) S dX5_two_27 rfl rfl (fun h27 => ?_) (fun h27 => ?_)
              · omega
              refine ks_iload (n := 32) S dX5_two_30 rfl rfl ?_
              refine ks_iconst (n := 33) S dX5_two_32 rfl (by unfold iv; decide) ?_
              refine ks_idiv (n := 34) S dX5_two_33 rfl (by omega) ?_
              refine ks_istore (n := 36) S dX5_two_34 rfl (L' := fun y => [some (kr 38), some (ki a), some (ki b), some (ki d), some (ki (0)), some (ki (3)), some (ki y), some (ki (0))]) (Nat.le_of_ble_eq_true rfl) (fun _ => rfl) (fun v6_34 hv34 => ?_)
              obtain rfl : v6_34 = 1 := by omega
              refine ks_iload (n := 38) S dX5_two_36 rfl rfl ?_
              refine ks_iconst (n := 39) S dX5_two_38 rfl (by unfold iv; decide) ?_
              refine ks_irem (n := 40) S dX5_two_39 rfl (by omega) ?_
              refine ks_istore (n := 42) S dX5_two_40 rfl (L' := fun y => [some (kr 38), some (ki a), some (ki b), some (ki d), some (ki (0)), some (ki (3)), some (ki (1)), some (ki y)]) (Nat.le_of_ble_eq_true rfl) (fun _ => rfl) (fun v7_40 hv40 => ?_)
              obtain rfl : v7_40 = 1 := by omega
              refine ks_aload_n (n := 43) S dX5_two_42 rfl rfl ?_
              refine ks_iload_n (n := 44) S dX5_two_43 rfl rfl ?_
              refine ks_iload_n (n := 45) S dX5_two_44 rfl rfl ?_
              refine ks_iconst (n := 46) S dX5_two_45 rfl (by unfold iv; decide) ?_
              refine ks_iload (n := 48) S dX5_two_46 rfl rfl ?_
              refine ks_isub (n := 49) S dX5_two_48 rfl (by omega) ?_
              refine ks_iload_n (n := 50) S dX5_two_49 rfl rfl ?_
              refine ks_iload (n := 52) S dX5_two_50 rfl rfl ?_
              refine ks_iload_n (n := 53) S dX5_two_52 rfl rfl ?_
              refine ks_v6i (n := 56) S dX5_two_53 rfl ml_X5_216 ym_X5_moodBy (ev_X5_moodBy hM (hR.fr F) ht5 (by omega) (by omega) (by omega)) (by decide) rfl (Nat.le_of_ble_eq_true rfl) (fun r53 τ53 q53 => ?_)
              obtain ⟨q1, q2⟩ := q53
              have F := F.tr q2
              cases q1
              rw [if_pos rfl]
              refine ks_aload_n (n := 57) S dX5_two_56 rfl rfl ?_
              refine ks_iload_n (n := 58) S dX5_two_57 rfl rfl ?_
              refine ks_iload_n (n := 59) S dX5_two_58 rfl rfl ?_
              refine ks_iload (n := 61) S dX5_two_59 rfl rfl ?_
              refine ks_iload_n (n := 62) S dX5_two_61 rfl rfl ?_
              refine ks_iload (n := 64) S dX5_two_62 rfl rfl ?_
              refine ks_iload_n (n := 65) S dX5_two_64 rfl rfl ?_
              refine ks_v6i (n := 68) S dX5_two_65 rfl ml_X5_216 ym_X5_moodBy (ev_X5_moodBy hM (hR.fr F) ht5 (by omega) (by omega) (by omega)) (by decide) rfl (Nat.le_of_ble_eq_true rfl) (fun r65 τ65 q65 => ?_)
              obtain ⟨q1, q2⟩ := q65
              have F := F.tr q2
              cases q1
              rw [if_pos rfl]
              refine ks_icmp_lt (n := 71) (tgt := 109) S dX5_two_68 rfl rfl (fun h68 => ?_) (fun h68 => ?_)
              · skip
                refine ks_iinc (n := 112) S dX5_two_109 rfl rfl (by omega) (L' := fun y => [some (kr 38), some (ki a), some (ki b), some (ki d), some (ki (0)), some (ki y), some (ki (1)), some (ki (1))]) (fun _ => rfl) (fun v5_109 hv109 => ?_)
                obtain rfl : v5_109 = 4 := by omega
                refine ks_goto (n := 24) S dX5_two_112 rfl ?_
                refine ks_iload (n := 26) S dX5_two_24 rfl rfl ?_
                refine ks_iconst (n := 27) S dX5_two_26 rfl (by unfold iv; decide) ?_
                refine ks_icmp_ge (n := 30) (tgt := 115) S dX5_two_27 rfl rfl (fun h27 => ?_) (fun h27 => ?_)
                rotate_left
                · omega
                refine ks_bipush (n := 117) S dX5_two_115 rfl (by unfold iv; decide) ?_
                refine ks_iret S dX5_two_117 ?_
                exact qr_t hR F (by unfold A_two; rw [show m_nt (M 39) a b d = 0 by rw [← e39]; exact hw4, if_neg (by decide)]; refine congrArg (fun z => (z, M)) ?_; unfold m_P; (repeat' split) <;> omega)
              · skip
                refine ks_aload_n (n := 72) S dX5_two_71 rfl rfl ?_
                refine ks_iload_n (n := 73) S dX5_two_72 rfl rfl ?_
                refine ks_iload_n (n := 74) S dX5_two_73 rfl rfl ?_
                refine ks_iload (n := 76) S dX5_two_74 rfl rfl ?_
                refine ks_iload_n (n := 77) S dX5_two_76 rfl rfl ?_
                refine ks_iconst (n := 78) S dX5_two_77 rfl (by unfold iv; decide) ?_
                refine ks_iload (n := 80) S dX5_two_78 rfl rfl ?_
                refine ks_isub (n := 81) S dX5_two_80 rfl (by omega) ?_
                refine ks_iload_n (n := 82) S dX5_two_81 rfl rfl ?_
                refine ks_v6i (n := 85) S dX5_two_82 rfl ml_X5_216 ym_X5_moodBy (ev_X5_moodBy hM (hR.fr F) ht5 (by omega) (by omega) (by omega)) (by decide) rfl (Nat.le_of_ble_eq_true rfl) (fun r82 τ82 q82 => ?_)
                obtain ⟨q1, q2⟩ := q82
                have F := F.tr q2
                cases q1
                rw [if_neg (fun e => hab e.symm)]
                refine ks_aload_n (n := 86) S dX5_two_85 rfl rfl ?_
                refine ks_iload_n (n := 87) S dX5_two_86 rfl rfl ?_
                refine ks_iload_n (n := 88) S dX5_two_87 rfl rfl ?_
                refine ks_iload (n := 90) S dX5_two_88 rfl rfl ?_
                refine ks_iload_n (n := 91) S dX5_two_90 rfl rfl ?_
                refine ks_iload (n := 93) S dX5_two_91 rfl rfl ?_
                refine ks_iload_n (n := 94) S dX5_two_93 rfl rfl ?_
                refine ks_v6i (n := 97) S dX5_two_94 rfl ml_X5_216 ym_X5_moodBy (ev_X5_moodBy hM (hR.fr F) ht5 (by omega) (by omega) (by omega)) (by decide) rfl (Nat.le_of_ble_eq_true rfl) (fun r94 τ94 q94 => ?_)
                obtain ⟨q1, q2⟩ := q94
                have F := F.tr q2
                cases q1
                rw [if_neg (fun e => hab e.symm)]
                refine ks_icmp_lt (n := 100) (tgt := 109) S dX5_two_97 rfl rfl (fun h97 => ?_) (fun h97 => ?_)
                · skip
                  refine ks_iinc (n := 112) S dX5_two_109 rfl rfl (by omega) (L' := fun y => [some (kr 38), some (ki a), some (ki b), some (ki d), some (ki (0)), some (ki y), some (ki (1)), some (ki (1))]) (fun _ => rfl) (fun v5_109 hv109 => ?_)
                  obtain rfl : v5_109 = 4 := by omega
                  refine ks_goto (n := 24) S dX5_two_112 rfl ?_
                  refine ks_iload (n := 26) S dX5_two_24 rfl rfl ?_
                  refine ks_iconst (n := 27) S dX5_two_26 rfl (by unfold iv; decide) ?_
                  refine ks_icmp_ge (n := 30) (tgt := 115) S dX5_two_27 rfl rfl (fun h27 => ?_) (fun h27 => ?_)
                  rotate_left
                  · omega
                  refine ks_bipush (n := 117) S dX5_two_115 rfl (by unfold iv; decide) ?_
                  refine ks_iret S dX5_two_117 ?_
                  exact qr_t hR F (by unfold A_two; rw [show m_nt (M 39) a b d = 0 by rw [← e39]; exact hw4, if_neg (by decide)]; refine congrArg (fun z => (z, M)) ?_; unfold m_P; (repeat' split) <;> omega)
                · skip
                  refine ks_bipush (n := 102) S dX5_two_100 rfl (by unfold iv; decide) ?_
                  refine ks_iload (n := 104) S dX5_two_102 rfl rfl ?_
                  refine ks_imul (n := 105) S dX5_two_104 rfl (by omega) ?_
                  refine ks_iload (n := 107) S dX5_two_105 rfl rfl ?_
                  refine ks_iadd (n := 108) S dX5_two_107 rfl (by omega) ?_
                  refine ks_iret S dX5_two_108 ?_
                  exact qr_t hR F (by unfold A_two; rw [show m_nt (M 39) a b d = 0 by rw [← e39]; exact hw4, if_neg (by decide)]; refine congrArg (fun z => (z, M)) ?_; unfold m_P; (repeat' split) <;> omega)
            · skip
              refine ks_aload_n (n := 72) S dX5_two_71 rfl rfl ?_
              refine ks_iload_n (n := 73) S dX5_two_72 rfl rfl ?_
              refine ks_iload_n (n := 74) S dX5_two_73 rfl rfl ?_
              refine ks_iload (n := 76) S dX5_two_74 rfl rfl ?_
              refine ks_iload_n (n := 77) S dX5_two_76 rfl rfl ?_
              refine ks_iconst (n := 78) S dX5_two_77 rfl (by unfold iv; decide) ?_
              refine ks_iload (n := 80) S dX5_two_78 rfl rfl ?_
              refine ks_isub (n := 81) S dX5_two_80 rfl (by omega) ?_
              refine ks_iload_n (n := 82) S dX5_two_81 rfl rfl ?_
              refine ks_v6i (n := 85) S dX5_two_82 rfl ml_X5_216 ym_X5_moodBy (ev_X5_moodBy hM (hR.fr F) ht5 (by omega) (by omega) (by omega)) (by decide) rfl (Nat.le_of_ble_eq_true rfl) (fun r82 τ82 q82 => ?_)
              obtain ⟨q1, q2⟩ := q82
              have F := F.tr q2
              cases q1
              rw [if_neg (fun e => hab e.symm)]
              refine ks_aload_n (n := 86) S dX5_two_85 rfl rfl ?_
              refine ks_iload_n (n := 87) S dX5_two_86 rfl rfl ?_
              refine ks_iload_n (n := 88) S dX5_two_87 rfl rfl ?_
              refine ks_iload (n := 90) S dX5_two_88 rfl rfl ?_
              refine ks_iload_n (n := 91) S dX5_two_90 rfl rfl ?_
              refine ks_iload (n := 93) S dX5_two_91 rfl rfl ?_
              refine ks_iload_n (n := 94) S dX5_two_93 rfl rfl ?_
              refine ks_v6i (n := 97) S dX5_two_94 rfl ml_X5_216 ym_X5_moodBy (ev_X5_moodBy hM (hR.fr F) ht5 (by omega) (by omega) (by omega)) (by decide) rfl (Nat.le_of_ble_eq_true rfl) (fun r94 τ94 q94 => ?_)
              obtain ⟨q1, q2⟩ := q94
              have F := F.tr q2
              cases q1
              rw [if_neg (fun e => hab e.symm)]
              refine ks_icmp_lt (n := 100) (tgt := 109) S dX5_two_97 rfl rfl (fun h97 => ?_) (fun h97 => ?_)
              · skip
                refine ks_iinc (n := 112) S dX5_two_109 rfl rfl (by omega) (L' := fun y => [some (kr 38), some (ki a), some (ki b), some (ki d), some (ki (0)), some (ki y), some (ki (1)), some (ki (0))]) (fun _ => rfl) (fun v5_109 hv109 => ?_)
                obtain rfl : v5_109 = 3 := by omega
                refine ks_goto (n := 24) S dX5_two_112 rfl ?_
                refine ks_iload (n := 26) S dX5_two_24 rfl rfl ?_
                refine ks_iconst (n := 27) S dX5_two_26 rfl (by unfold iv; decide) ?_
                refine ks_icmp_ge (n := 30) (tgt := 115) S dX5_two_27 rfl rfl (fun h27 => ?_) (fun h27 => ?_)
                · omega
                refine ks_iload (n := 32) S dX5_two_30 rfl rfl ?_
                refine ks_iconst (n := 33) S dX5_two_32 rfl (by unfold iv; decide) ?_
                refine ks_idiv (n := 34) S dX5_two_33 rfl (by omega) ?_
                refine ks_istore (n := 36) S dX5_two_34 rfl (L' := fun y => [some (kr 38), some (ki a), some (ki b), some (ki d), some (ki (0)), some (ki (3)), some (ki y), some (ki (0))]) (Nat.le_of_ble_eq_true rfl) (fun _ => rfl) (fun v6_34 hv34 => ?_)
                obtain rfl : v6_34 = 1 := by omega
                refine ks_iload (n := 38) S dX5_two_36 rfl rfl ?_
                refine ks_iconst (n := 39) S dX5_two_38 rfl (by unfold iv; decide) ?_
                refine ks_irem (n := 40) S dX5_two_39 rfl (by omega) ?_
                refine ks_istore (n := 42) S dX5_two_40 rfl (L' := fun y => [some (kr 38), some (ki a), some (ki b), some (ki d), some (ki (0)), some (ki (3)), some (ki (1)), some (ki y)]) (Nat.le_of_ble_eq_true rfl) (fun _ => rfl) (fun v7_40 hv40 => ?_)
                obtain rfl : v7_40 = 1 := by omega
                refine ks_aload_n (n := 43) S dX5_two_42 rfl rfl ?_
                refine ks_iload_n (n := 44) S dX5_two_43 rfl rfl ?_
                refine ks_iload_n (n := 45) S dX5_two_44 rfl rfl ?_
                refine ks_iconst (n := 46) S dX5_two_45 rfl (by unfold iv; decide) ?_
                refine ks_iload (n := 48) S dX5_two_46 rfl rfl ?_
                refine ks_isub (n := 49) S dX5_two_48 rfl (by omega) ?_
                refine ks_iload_n (n := 50) S dX5_two_49 rfl rfl ?_
                refine ks_iload (n := 52) S dX5_two_50 rfl rfl ?_
                refine ks_iload_n (n := 53) S dX5_two_52 rfl rfl ?_
                refine ks_v6i (n := 56) S dX5_two_53 rfl ml_X5_216 ym_X5_moodBy (ev_X5_moodBy hM (hR.fr F) ht5 (by omega) (by omega) (by omega)) (by decide) rfl (Nat.le_of_ble_eq_true rfl) (fun r53 τ53 q53 => ?_)
                obtain ⟨q1, q2⟩ := q53
                have F := F.tr q2
                cases q1
                rw [if_pos rfl]
                refine ks_aload_n (n := 57) S dX5_two_56 rfl rfl ?_
                refine ks_iload_n (n := 58) S dX5_two_57 rfl rfl ?_
                refine ks_iload_n (n := 59) S dX5_two_58 rfl rfl ?_
                refine ks_iload (n := 61) S dX5_two_59 rfl rfl ?_
                refine ks_iload_n (n := 62) S dX5_two_61 rfl rfl ?_
                refine ks_iload (n := 64) S dX5_two_62 rfl rfl ?_
                refine ks_iload_n (n := 65) S dX5_two_64 rfl rfl ?_
                refine ks_v6i (n := 68) S dX5_two_65 rfl ml_X5_216 ym_X5_moodBy (ev_X5_moodBy hM (hR.fr F) ht5 (by omega) (by omega) (by omega)) (by decide) rfl (Nat.le_of_ble_eq_true rfl) (fun r65 τ65 q65 => ?_)
                obtain ⟨q1, q2⟩ := q65
                have F := F.tr q2
                cases q1
                rw [if_pos rfl]
                refine ks_icmp_lt (n := 71) (tgt := 109) S dX5_two_68 rfl rfl (fun h68 => ?_) (fun h68 => ?_)
                · skip
                  refine ks_iinc (n := 112) S dX5_two_109 rfl rfl (by omega) (L' := fun y => [some (kr 38), some (ki a), some (ki b), some (ki d), some (ki (0)), some (ki y), some (ki (1)), some (ki (1))]) (fun _ => rfl) (fun v5_109 hv109 => ?_)
                  obtain rfl : v5_109 = 4 := by omega
                  refine ks_goto (n := 24) S dX5_two_112 rfl ?_
                  refine ks_iload (n := 26) S dX5_two_24 rfl rfl ?_
                  refine ks_iconst (n := 27) S dX5_two_26 rfl (by unfold iv; decide) ?_
                  refine ks_icmp_ge (n := 30) (tgt := 115) S dX5_two_27 rfl rfl (fun h27 => ?_) (fun h27 => ?_)
                  rotate_left
                  · omega
                  refine ks_bipush (n := 117) S dX5_two_115 rfl (by unfold iv; decide) ?_
                  refine ks_iret S dX5_two_117 ?_
                  exact qr_t hR F (by unfold A_two; rw [show m_nt (M 39) a b d = 0 by rw [← e39]; exact hw4, if_neg (by decide)]; refine congrArg (fun z => (z, M)) ?_; unfold m_P; (repeat' split) <;> omega)
                · skip
                  refine ks_aload_n (n := 72) S dX5_two_71 rfl rfl ?_
                  refine ks_iload_n (n := 73) S dX5_two_72 rfl rfl ?_
                  refine ks_iload_n (n := 74) S dX5_two_73 rfl rfl ?_
                  refine ks_iload (n := 76) S dX5_two_74 rfl rfl ?_
                  refine ks_iload_n (n := 77) S dX5_two_76 rfl rfl ?_
                  refine ks_iconst (n := 78) S dX5_two_77 rfl (by unfold iv; decide) ?_
                  refine ks_iload (n := 80) S dX5_two_78 rfl rfl ?_
                  refine ks_isub (n := 81) S dX5_two_80 rfl (by omega) ?_
                  refine ks_iload_n (n := 82) S dX5_two_81 rfl rfl ?_
                  refine ks_v6i (n := 85) S dX5_two_82 rfl ml_X5_216 ym_X5_moodBy (ev_X5_moodBy hM (hR.fr F) ht5 (by omega) (by omega) (by omega)) (by decide) rfl (Nat.le_of_ble_eq_true rfl) (fun r82 τ82 q82 => ?_)
                  obtain ⟨q1, q2⟩ := q82
                  have F := F.tr q2
                  cases q1
                  rw [if_neg (fun e => hab e.symm)]
                  refine ks_aload_n (n := 86) S dX5_two_85 rfl rfl ?_
                  refine ks_iload_n (n := 87) S dX5_two_86 rfl rfl ?_
                  refine ks_iload_n (n := 88) S dX5_two_87 rfl rfl ?_
                  refine ks_iload (n := 90) S dX5_two_88 rfl rfl ?_
                  refine ks_iload_n (n := 91) S dX5_two_90 rfl rfl ?_
                  refine ks_iload (n := 93) S dX5_two_91 rfl rfl ?_
                  refine ks_iload_n (n := 94) S dX5_two_93 rfl rfl ?_
                  refine ks_v6i (n := 97) S dX5_two_94 rfl ml_X5_216 ym_X5_moodBy (ev_X5_moodBy hM (hR.fr F) ht5 (by omega) (by omega) (by omega)) (by decide) rfl (Nat.le_of_ble_eq_true rfl) (fun r94 τ94 q94 => ?_)
                  obtain ⟨q1, q2⟩ := q94
                  have F := F.tr q2
                  cases q1
                  rw [if_neg (fun e => hab e.symm)]
                  refine ks_icmp_lt (n := 100) (tgt := 109) S dX5_two_97 rfl rfl (fun h97 => ?_) (fun h97 => ?_)
                  · skip
                    refine ks_iinc (n := 112) S dX5_two_109 rfl rfl (by omega) (L' := fun y => [some (kr 38), some (ki a), some (ki b), some (ki d), some (ki (0)), some (ki y), some (ki (1)), some (ki (1))]) (fun _ => rfl) (fun v5_109 hv109 => ?_)
                    obtain rfl : v5_109 = 4 := by omega
                    refine ks_goto (n := 24) S dX5_two_112 rfl ?_
                    refine ks_iload (n := 26) S dX5_two_24 rfl rfl ?_
                    refine ks_iconst (n := 27) S dX5_two_26 rfl (by unfold iv; decide) ?_
                    refine ks_icmp_ge (n := 30) (tgt := 115) S dX5_two_27 rfl rfl (fun h27 => ?_) (fun h27 => ?_)
                    rotate_left
                    · omega
                    refine ks_bipush (n := 117) S dX5_two_115 rfl (by unfold iv; decide) ?_
                    refine ks_iret S dX5_two_117 ?_
                    exact qr_t hR F (by unfold A_two; rw [show m_nt (M 39) a b d = 0 by rw [← e39]; exact hw4, if_neg (by decide)]; refine congrArg (fun z => (z, M)) ?_; unfold m_P; (repeat' split) <;> omega)
                  · skip
                    refine ks_bipush (n := 102) S dX5_two_100 rfl (by unfold iv; decide) ?_
                    refine ks_iload (n := 104) S dX5_two_102 rfl rfl ?_
                    refine ks_imul (n := 105) S dX5_two_104 rfl (by omega) ?_
                    refine ks_iload (n := 107) S dX5_two_105 rfl rfl ?_
                    refine ks_iadd (n := 108) S dX5_two_107 rfl (by omega) ?_
                    refine ks_iret S dX5_two_108 ?_
                    exact qr_t hR F (by unfold A_two; rw [show m_nt (M 39) a b d = 0 by rw [← e39]; exact hw4, if_neg (by decide)]; refine congrArg (fun z => (z, M)) ?_; unfold m_P; (repeat' split) <;> omega)
              · skip
                refine ks_bipush (n := 102) S dX5_two_100 rfl (by unfold iv; decide) ?_
                refine ks_iload (n := 104) S dX5_two_102 rfl rfl ?_
                refine ks_imul (n := 105) S dX5_two_104 rfl (by omega) ?_
                refine ks_iload (n := 107) S dX5_two_105 rfl rfl ?_
                refine ks_iadd (n := 108) S dX5_two_107 rfl (by omega) ?_
                refine ks_iret S dX5_two_108 ?_
                exact qr_t hR F (by unfold A_two; rw [show m_nt (M 39) a b d = 0 by rw [← e39]; exact hw4, if_neg (by decide)]; refine congrArg (fun z => (z, M)) ?_; unfold m_P; (repeat' split) <;> omega)
          · skip
            refine ks_bipush (n := 102) S dX5_two_100 rfl (by unfold iv; decide) ?_
            refine ks_iload (n := 104) S dX5_two_102 rfl rfl ?_
            refine ks_imul (n := 105) S dX5_two_104 rfl (by omega) ?_
            refine ks_iload (n := 107) S dX5_two_105 rfl rfl ?_
            refine ks_iadd (n := 108) S dX5_two_107 rfl (by omega) ?_
            refine ks_iret S dX5_two_108 ?_
            exact qr_t hR F (by unfold A_two; rw [show m_nt (M 39) a b d = 0 by rw [← e39]; exact hw4, if_neg (by decide)]; refine congrArg (fun z => (z, M)) ?_; unfold m_P; (repeat' split) <;> omega)
      · skip
        refine ks_bipush (n := 102) S dX5_two_100 rfl (by unfold iv; decide) ?_
        refine ks_iload (n := 104) S dX5_two_102 rfl rfl ?_
        refine ks_imul (n := 105) S dX5_two_104 rfl (by omega) ?_
        refine ks_iload (n := 107) S dX5_two_105 rfl rfl ?_
        refine ks_iadd (n := 108) S dX5_two_107 rfl (by omega) ?_
        refine ks_iret S dX5_two_108 ?_
        exact qr_t hR F (by unfold A_two; rw [show m_nt (M 39) a b d = 0 by rw [← e39]; exact hw4, if_neg (by decide)]; refine congrArg (fun z => (z, M)) ?_; unfold m_P; (repeat' split) <;> omega)
/-- a walk by the row's doors, from the i-th on -/
def m_wk (T : RW) (p : Int) : Nat → Int → RW → RW × Int
  | 0, _, s => (s, -9)
  | k + 1, i, s => if (0 ≤ T i ∧ T i < s 0) ∧ m_of s (T i) (aP s p 1) then m_wk T p k (i + 1) (m_open s p (T i)) else (s, i)
theorem m_wk_s {T : RW} {p e i : Int} {s : RW} (h : i < e) : m_wk T p (e - i).toNat i s = if (0 ≤ T i ∧ T i < s 0) ∧ m_of s (T i) (aP s p 1) then m_wk T p (e - (i + 1)).toNat (i + 1) (m_open s p (T i)) else (s, i) := by
  rw [show (e - i).toNat = (e - (i + 1)).toNat + 1 by omega]
  rfl
theorem m_wk_0 {T : RW} {p e i : Int} {s : RW} (h : e ≤ i) : m_wk T p (e - i).toNat i s = (s, -9) := by
  rw [show (e - i).toNat = 0 by omega]
  rfl
def A_walk (M : KS) (p w : Int) : Int × KS := if ¬ (0 ≤ p ∧ p < M 39 1) then (-1, rfM M (-1)) else if ¬ (0 ≤ w ∧ w ≤ 1) then (-2, rfM M (-2)) else (if w = 0 then (m_wk (M 44) p (M 38 9).toNat 0 (M 39)).2 else aP (m_wk (M 44) p (M 38 9).toNat 0 (M 39)).1 p 2, M)
theorem pc_walk {p w : Int} (hM : OkM M) (hC : RC σ M) : Ev l yX4_walk cX4_walk 5 (some .int) 3 66 [kr 0, ki p, ki w] σ (QC (A_walk M p w) σ) := by
  have R := hC.1
  have ok := hM.1
  have n9 := ok.1
  have n6 := ok.2.1
  have s9 : σ 0 7 = M 38 9 := hC.2.2.2.2.2.1
  have m9 := hM.2.2.2.2.2.2.2.1
  refine ev_intro ym_X4_walk.1 (Nat.le_of_ble_eq_true rfl) (fun hv hσ K S => ?_)
  have hv := hv
  show K 0 [some (kr 0), some (ki p), some (ki w), none, none] [] σ
  refine kq_use (fun (hp : 0 ≤ p ∧ p < M 39 1) (hw : 0 ≤ w ∧ w ≤ 1) => kq_for (α := Int × KS × RW) (M 38 9) (fun i s => 0 ≤ i ∧ FrT σ s.2.1 ∧ RepH s.2.1 11 s.2.2 ∧ OkR s.2.2 ∧ s.2.2 0 = M 39 0 ∧ s.2.2 1 = M 39 1 ∧ ((s.1 = -9 ∧ m_wk (M 44) p (M 38 9).toNat 0 (M 39) = m_wk (M 44) p (M 38 9 - i).toNat i s.2.2) ∨ (0 ≤ s.1 ∧ m_wk (M 44) p (M 38 9).toNat 0 (M 39) = (s.2.2, s.1)))) (fun i s => K 50 [some (kr 0), some (ki p), some (ki w), some (ki s.1), some (ki i)] [] s.2.1) ?_) (fun lp => ?_)
  · intro i s hi inv ih
    obtain ⟨b, τ, t⟩ := s
    obtain ⟨i0, F, Rt1, okt, t0, t1, hd⟩ := inv
    simp only at F Rt1 okt t0 t1 hd ⊢
    have C2 := hC.fr F
    have s92 : τ 0 7 = M 38 9 := C2.2.2.2.2.2.1
    refine ks_iload (n := 52) S dX4_walk_50 rfl rfl ?_
    refine ks_aload_n (n := 53) S dX4_walk_52 rfl rfl ?_
    refine ks_getI (n := 56) (fi := 7) S dX4_walk_53 rfl fl_X4_44 rfl rfl rfl ?_
    refine ks_icmp_ge (n := 59) (tgt := 127) S dX4_walk_56 rfl rfl (fun h56 => ?_) (fun h56 => ?_)
    · skip
      have hv1 : m_wk (M 44) p (M 38 9).toNat 0 (M 39) = (t, b) := by
        rcases hd with h | h
        · rw [h.2, h.1, m_wk_0 (by omega)]
        · exact h.2
      have f1 := (Rt1.2.2.2.2 p hp.1 (by omega)).2.2
      refine ks_iload_n (n := 128) S dX4_walk_127 rfl rfl ?_
      refine ks_if_ne (n := 131) (tgt := 135) S dX4_walk_128 rfl rfl (fun h128 => ?_) (fun h128 => ?_)
      · skip
        refine ks_aload_n (n := 136) S dX4_walk_135 rfl rfl ?_
        refine ks_getr (n := 139) S dX4_walk_136 rfl fl_X4_16 rfl rfl ?_
        refine ks_getr (n := 142) S dX4_walk_139 rfl fl_X4_108 kq_H11.o rfl ?_
        refine ks_iload_n (n := 143) S dX4_walk_142 rfl rfl ?_
        refine ks_iaload (n := 144) S dX4_walk_143 rfl kq_H11.a9 (by omega) ?_
        refine ks_iret S dX4_walk_144 ?_
        refine qc_t hC F ?_
        unfold A_walk
        rw [if_neg (by omega), if_neg (by omega), hv1]
        first | rw [if_pos (by omega)] | rw [if_neg (by omega), f1]
      · skip
        refine ks_iload_n (n := 132) S dX4_walk_131 rfl rfl ?_
        refine ks_goto (n := 144) S dX4_walk_132 rfl ?_
        refine ks_iret S dX4_walk_144 ?_
        refine qc_t hC F ?_
        unfold A_walk
        rw [if_neg (by omega), if_neg (by omega), hv1]
        first | rw [if_pos (by omega)] | rw [if_neg (by omega), f1]
    · skip
      refine ks_iload_n (n := 60) S dX4_walk_59 rfl rfl ?_
      refine ks_bipush (n := 62) S dX4_walk_60 rfl (by unfold iv; decide) ?_
      refine ks_icmp_ne (n := 65) (tgt := 127) S dX4_walk_62 rfl rfl (fun h62 => ?_) (fun h62 => ?_)
      · skip
        have hv1 : m_wk (M 44) p (M 38 9).toNat 0 (M 39) = (t, b) := by
          rcases hd with h | h
          · rw [h.2, h.1, m_wk_0 (by omega)]
          · exact h.2
        have f1 := (Rt1.2.2.2.2 p hp.1 (by omega)).2.2
        refine ks_iload_n (n := 128) S dX4_walk_127 rfl rfl ?_
        refine ks_if_ne (n := 131) (tgt := 135) S dX4_walk_128 rfl rfl (fun h128 => ?_) (fun h128 => ?_)
        · skip
          refine ks_aload_n (n := 136) S dX4_walk_135 rfl rfl ?_
          refine ks_getr (n := 139) S dX4_walk_136 rfl fl_X4_16 rfl rfl ?_
          refine ks_getr (n := 142) S dX4_walk_139 rfl fl_X4_108 kq_H11.o rfl ?_
          refine ks_iload_n (n := 143) S dX4_walk_142 rfl rfl ?_
          refine ks_iaload (n := 144) S dX4_walk_143 rfl kq_H11.a9 (by omega) ?_
          refine ks_iret S dX4_walk_144 ?_
          refine qc_t hC F ?_
          unfold A_walk
          rw [if_neg (by omega), if_neg (by omega), hv1]
          first | rw [if_pos (by omega)] | rw [if_neg (by omega), f1]
        · skip
          refine ks_iload_n (n := 132) S dX4_walk_131 rfl rfl ?_
          refine ks_goto (n := 144) S dX4_walk_132 rfl ?_
          refine ks_iret S dX4_walk_144 ?_
          refine qc_t hC F ?_
          unfold A_walk
          rw [if_neg (by omega), if_neg (by omega), hv1]
          first | rw [if_pos (by omega)] | rw [if_neg (by omega), f1]
      · skip
        have q1 : τ 36 i = M 44 i := C2.2.2.2.2.2.2.1 i i0 (by omega)
        have hd : m_wk (M 44) p (M 38 9).toNat 0 (M 39) = m_wk (M 44) p (M 38 9 - i).toNat i t := by rcases hd with h | h; exact h.2; omega
        rw [m_wk_s (by omega)] at hd
        refine ks_aload_n (n := 66) S dX4_walk_65 rfl rfl ?_
        refine ks_getr (n := 69) S dX4_walk_66 rfl fl_X4_16 rfl rfl ?_
        refine ks_aload_n (n := 70) S dX4_walk_69 rfl rfl ?_
        refine ks_getr (n := 73) S dX4_walk_70 rfl fl_X4_40 rfl rfl ?_
        refine ks_iload (n := 75) S dX4_walk_73 rfl rfl ?_
        refine ks_iaload (n := 76) S dX4_walk_75 rfl rfl (by omega) ?_
        refine kf_v1z (n := 79) S dX4_walk_76 rfl ml_X4_74 ym_X0_hasDoor (ev_X0_hasDoor kq_H11 Rt1) (by decide) kq_H11.o (Nat.le_of_ble_eq_true rfl) ?_
        refine ks_if_eq (n := 82) (tgt := 118) S dX4_walk_79 rfl rfl (fun h79 => ?_) (fun h79 => ?_)
        · skip
          simp only [bi_eq, bi_ne, Classical.not_not] at h79
          rw [q1] at h79
          refine ks_iload (n := 120) S dX4_walk_118 rfl rfl ?_
          refine ks_istore_n (n := 121) S dX4_walk_120 rfl rfl (L' := fun y => [some (kr 0), some (ki p), some (ki w), some (ki y), some (ki i)]) (Nat.le_of_ble_eq_true rfl) (fun _ => rfl) (fun v3_120 hv120 => ?_)
          subst v3_120
          refine ks_iinc (n := 124) S dX4_walk_121 rfl rfl (by omega) (L' := fun y => [some (kr 0), some (ki p), some (ki w), some (ki _), some (ki y)]) (fun _ => rfl) (fun v4_121 hv121 => ?_)
          subst v4_121
          refine ks_goto (n := 50) S dX4_walk_124 rfl ?_
          first | (rw [if_neg (fun h => h79 h.1)] at hd; refine ih (i, τ, t) (by omega) ⟨by omega, F, Rt1, okt, t0, t1, Or.inr ⟨i0, hd⟩⟩) | (rw [if_neg (fun h => h97 h.2)] at hd; refine ih (i, τ, t) (by omega) ⟨by omega, F, Rt1, okt, t0, t1, Or.inr ⟨i0, hd⟩⟩) | (rw [if_pos ⟨h79, h97⟩] at hd; refine ih (b, _, m_open t p (M 44 i)) (by omega) ⟨by omega, F.tr (FrT.ofH F3), R3, m_open_ok okt (by omega) (by omega) h97, z.1.trans t0, z.2.1.trans t1, Or.inl ⟨h62, hd⟩⟩)
        · skip
          simp only [bi_eq, bi_ne, Classical.not_not] at h79
          rw [q1] at h79
          refine ks_aload_n (n := 83) S dX4_walk_82 rfl rfl ?_
          refine ks_getr (n := 86) S dX4_walk_83 rfl fl_X4_16 rfl rfl ?_
          refine ks_iload_n (n := 87) S dX4_walk_86 rfl rfl ?_
          refine ks_aload_n (n := 88) S dX4_walk_87 rfl rfl ?_
          refine ks_getr (n := 91) S dX4_walk_88 rfl fl_X4_40 rfl rfl ?_
          refine ks_iload (n := 93) S dX4_walk_91 rfl rfl ?_
          refine ks_iaload (n := 94) S dX4_walk_93 rfl rfl (by omega) ?_
          refine kf_v2z (n := 97) S dX4_walk_94 rfl ml_X4_114 ym_X0_canOpen (ev_X0_canOpen kq_H11 Rt1 okt (by omega) (by omega)) (by decide) kq_H11.o (Nat.le_of_ble_eq_true rfl) ?_
          refine ks_if_eq (n := 100) (tgt := 118) S dX4_walk_97 rfl rfl (fun h97 => ?_) (fun h97 => ?_)
          · skip
            simp only [bi_eq, bi_ne, Classical.not_not] at h97
            rw [q1] at h97
            refine ks_iload (n := 120) S dX4_walk_118 rfl rfl ?_
            refine ks_istore_n (n := 121) S dX4_walk_120 rfl rfl (L' := fun y => [some (kr 0), some (ki p), some (ki w), some (ki y), some (ki i)]) (Nat.le_of_ble_eq_true rfl) (fun _ => rfl) (fun v3_120 hv120 => ?_)
            subst v3_120
            refine ks_iinc (n := 124) S dX4_walk_121 rfl rfl (by omega) (L' := fun y => [some (kr 0), some (ki p), some (ki w), some (ki _), some (ki y)]) (fun _ => rfl) (fun v4_121 hv121 => ?_)
            subst v4_121
            refine ks_goto (n := 50) S dX4_walk_124 rfl ?_
            first | (rw [if_neg (fun h => h79 h.1)] at hd; refine ih (i, τ, t) (by omega) ⟨by omega, F, Rt1, okt, t0, t1, Or.inr ⟨i0, hd⟩⟩) | (rw [if_neg (fun h => h97 h.2)] at hd; refine ih (i, τ, t) (by omega) ⟨by omega, F, Rt1, okt, t0, t1, Or.inr ⟨i0, hd⟩⟩) | (rw [if_pos ⟨h79, h97⟩] at hd; refine ih (b, _, m_open t p (M 44 i)) (by omega) ⟨by omega, F.tr (FrT.ofH F3), R3, m_open_ok okt (by omega) (by omega) h97, z.1.trans t0, z.2.1.trans t1, Or.inl ⟨h62, hd⟩⟩)
          · skip
            simp only [bi_eq, bi_ne, Classical.not_not] at h97
            rw [q1] at h97
            refine ks_aload_n (n := 101) S dX4_walk_100 rfl rfl ?_
            refine ks_getr (n := 104) S dX4_walk_101 rfl fl_X4_16 rfl rfl ?_
            refine ks_iload_n (n := 105) S dX4_walk_104 rfl rfl ?_
            refine ks_aload_n (n := 106) S dX4_walk_105 rfl rfl ?_
            refine ks_getr (n := 109) S dX4_walk_106 rfl fl_X4_40 rfl rfl ?_
            refine ks_iload (n := 111) S dX4_walk_109 rfl rfl ?_
            refine ks_iaload (n := 112) S dX4_walk_111 rfl rfl (by omega) ?_
            refine ks_v2v (n := 115) S dX4_walk_112 rfl ml_X4_118 ym_X0_open (ev_X0_open kq_H11 Rt1 okt (by omega) (by omega) (by rw [q1]; exact h97)) (by decide) kq_H11.o (Nat.le_of_ble_eq_true rfl) (fun τ112 q112 => ?_)
            obtain ⟨-, R3, F3⟩ := q112
            rw [q1] at R3
            have z := m_open_012 (a := t) (p := p) (d := M 44 i) (by omega) (by omega)
            refine ks_goto (n := 121) S dX4_walk_115 rfl ?_
            refine ks_iinc (n := 124) S dX4_walk_121 rfl rfl (by omega) (L' := fun y => [some (kr 0), some (ki p), some (ki w), some (ki b), some (ki y)]) (fun _ => rfl) (fun v4_121 hv121 => ?_)
            subst v4_121
            refine ks_goto (n := 50) S dX4_walk_124 rfl ?_
            first | (rw [if_neg (fun h => h79 h.1)] at hd; refine ih (i, τ, t) (by omega) ⟨by omega, F, Rt1, okt, t0, t1, Or.inr ⟨i0, hd⟩⟩) | (rw [if_neg (fun h => h97 h.2)] at hd; refine ih (i, τ, t) (by omega) ⟨by omega, F, Rt1, okt, t0, t1, Or.inr ⟨i0, hd⟩⟩) | (rw [if_pos ⟨h79, h97⟩] at hd; refine ih (b, _, m_open t p (M 44 i)) (by omega) ⟨by omega, F.tr (FrT.ofH F3), R3, m_open_ok okt (by omega) (by omega) h97, z.1.trans t0, z.2.1.trans t1, Or.inl ⟨h62, hd⟩⟩)
  refine ks_aload_n (n := 1) S dX4_walk_0 rfl rfl ?_
  refine ks_getr (n := 4) S dX4_walk_1 rfl fl_X4_10 rfl rfl ?_
  refine ks_iload_n (n := 5) S dX4_walk_4 rfl rfl ?_
  refine kf_v1z (n := 8) S dX4_walk_5 rfl ml_X4_99 ym_X0_hasPerson (ev_X0_hasPerson kq_H1 R) (by decide) kq_H1.o (Nat.le_of_ble_eq_true rfl) ?_
  refine ks_if_ne (n := 11) (tgt := 17) S dX4_walk_8 rfl rfl (fun h8 => ?_) (fun h8 => ?_)
  · skip
    simp only [bi_eq, bi_ne, Classical.not_not] at h8
    refine ks_iload_n (n := 18) S dX4_walk_17 rfl rfl ?_
    refine ks_if_eq (n := 21) (tgt := 33) S dX4_walk_18 rfl rfl (fun h18 => ?_) (fun h18 => ?_)
    · skip
      refine ks_aload_n (n := 34) S dX4_walk_33 rfl rfl ?_
      refine ks_getr (n := 37) S dX4_walk_34 rfl fl_X4_16 rfl rfl ?_
      refine ks_aload_n (n := 38) S dX4_walk_37 rfl rfl ?_
      refine ks_getr (n := 41) S dX4_walk_38 rfl fl_X4_10 rfl rfl ?_
      refine ks_v1v (n := 44) S dX4_walk_41 rfl ml_X4_66 ym_X0_copyFrom (ev_X0_copyFrom kq_H11 kq_H1 (by decide) R ok) (by decide) kq_H11.o (Nat.le_of_ble_eq_true rfl) (fun τ41 q41 => ?_)
      obtain ⟨-, R1, F1⟩ := q41
      refine ks_bipush (n := 46) S dX4_walk_44 rfl (by unfold iv; decide) ?_
      refine ks_istore_n (n := 47) S dX4_walk_46 rfl rfl (L' := fun y => [some (kr 0), some (ki p), some (ki w), some (ki y), none]) (Nat.le_of_ble_eq_true rfl) (fun _ => rfl) (fun v3_46 hv46 => ?_)
      obtain rfl : v3_46 = -9 := by omega
      refine ks_iconst (n := 48) S dX4_walk_47 rfl (by unfold iv; decide) ?_
      refine ks_istore (n := 50) S dX4_walk_48 rfl (L' := fun y => [some (kr 0), some (ki p), some (ki w), some (ki (-9)), some (ki y)]) (Nat.le_of_ble_eq_true rfl) (fun _ => rfl) (fun v4_48 hv48 => ?_)
      obtain rfl : v4_48 = 0 := by omega
      exact lp (by omega) (by omega) 0 (-9, _, M 39) m9.1 ⟨by omega, FrT.ofH F1, R1, ok, rfl, rfl, Or.inl ⟨rfl, by rw [Int.sub_zero]⟩⟩
    · skip
      refine ks_iload_n (n := 22) S dX4_walk_21 rfl rfl ?_
      refine ks_iconst (n := 23) S dX4_walk_22 rfl (by unfold iv; decide) ?_
      refine ks_icmp_eq (n := 26) (tgt := 33) S dX4_walk_23 rfl rfl (fun h23 => ?_) (fun h23 => ?_)
      · skip
        refine ks_aload_n (n := 34) S dX4_walk_33 rfl rfl ?_
        refine ks_getr (n := 37) S dX4_walk_34 rfl fl_X4_16 rfl rfl ?_
        refine ks_aload_n (n := 38) S dX4_walk_37 rfl rfl ?_
        refine ks_getr (n := 41) S dX4_walk_38 rfl fl_X4_10 rfl rfl ?_
        refine ks_v1v (n := 44) S dX4_walk_41 rfl ml_X4_66 ym_X0_copyFrom (ev_X0_copyFrom kq_H11 kq_H1 (by decide) R ok) (by decide) kq_H11.o (Nat.le_of_ble_eq_true rfl) (fun τ41 q41 => ?_)
        obtain ⟨-, R1, F1⟩ := q41
        refine ks_bipush (n := 46) S dX4_walk_44 rfl (by unfold iv; decide) ?_
        refine ks_istore_n (n := 47) S dX4_walk_46 rfl rfl (L' := fun y => [some (kr 0), some (ki p), some (ki w), some (ki y), none]) (Nat.le_of_ble_eq_true rfl) (fun _ => rfl) (fun v3_46 hv46 => ?_)
        obtain rfl : v3_46 = -9 := by omega
        refine ks_iconst (n := 48) S dX4_walk_47 rfl (by unfold iv; decide) ?_
        refine ks_istore (n := 50) S dX4_walk_48 rfl (L' := fun y => [some (kr 0), some (ki p), some (ki w), some (ki (-9)), some (ki y)]) (Nat.le_of_ble_eq_true rfl) (fun _ => rfl) (fun v4_48 hv48 => ?_)
        obtain rfl : v4_48 = 0 := by omega
        exact lp (by omega) (by omega) 0 (-9, _, M 39) m9.1 ⟨by omega, FrT.ofH F1, R1, ok, rfl, rfl, Or.inl ⟨rfl, by rw [Int.sub_zero]⟩⟩
      · skip
        refine ks_aload_n (n := 27) S dX4_walk_26 rfl rfl ?_
        refine ks_bipush (n := 29) S dX4_walk_27 rfl (by unfold iv; decide) ?_
        refine kf_v1i (n := 32) S dX4_walk_29 rfl ml_X4_51 ym_X4_refuse (ev_X4_refuse (by omega)) (by decide) rfl (Nat.le_of_ble_eq_true rfl) ?_
        refine ks_iret S dX4_walk_32 ?_
        exact qc_r hC (by omega) (by unfold A_walk; (repeat' split) <;> first | rfl | omega)
  · skip
    simp only [bi_eq, bi_ne, Classical.not_not] at h8
    refine ks_aload_n (n := 12) S dX4_walk_11 rfl rfl ?_
    refine ks_iconst (n := 13) S dX4_walk_12 rfl (by unfold iv; decide) ?_
    refine kf_v1i (n := 16) S dX4_walk_13 rfl ml_X4_51 ym_X4_refuse (ev_X4_refuse (by omega)) (by decide) rfl (Nat.le_of_ble_eq_true rfl) ?_
    refine ks_iret S dX4_walk_16 ?_
    exact qc_r hC (by omega) (by unfold A_walk; (repeat' split) <;> first | rfl | omega)
theorem pr_walk {p w : Int} (hM : OkM M) (hR : RR σ M) : Ev l yX5_walk cX5_walk 5 (some .int) 3 66 [kr 38, ki p, ki w] σ (QR (A_walk M p w) σ) := by
  have e39 : σ 39 = M 39 := hR.1
  have ok := hM.1
  have n9 := ok.1
  have n6 := ok.2.1
  have z39 := hM.2.2.1
  have m9 := hM.2.2.2.2.2.2.2.1
  have s1 : σ 39 1 = M 39 1 := by rw [e39]
  refine ev_intro ym_X5_walk.1 (Nat.le_of_ble_eq_true rfl) (fun hv hσ K S => ?_)
  have hv := hv
  show K 0 [some (kr 38), some (ki p), some (ki w), none, none] [] σ
  refine kq_use (fun (hp : 0 ≤ p ∧ p < M 39 1) (hw : 0 ≤ w ∧ w ≤ 1) => kq_for (α := Int × RW) (M 38 9) (fun i s => 0 ≤ i ∧ OkR s.2 ∧ Zr s.2 ∧ s.2 0 = M 39 0 ∧ s.2 1 = M 39 1 ∧ ((s.1 = -9 ∧ m_wk (M 44) p (M 38 9).toNat 0 (M 39) = m_wk (M 44) p (M 38 9 - i).toNat i s.2) ∨ (0 ≤ s.1 ∧ m_wk (M 44) p (M 38 9).toNat 0 (M 39) = (s.2, s.1)))) (fun i s => K 47 [some (kr 38), some (ki p), some (ki w), some (ki s.1), some (ki i)] [] (sr σ 40 s.2)) ?_) (fun lp => ?_)
  · intro i s hi inv ih
    obtain ⟨b, t⟩ := s
    obtain ⟨i0, okt, zt, t0, t1, hd⟩ := inv
    simp only at okt zt t0 t1 hd ⊢
    obtain ⟨ρ, hρ⟩ : ∃ z, z = sr σ 40 t := ⟨_, rfl⟩
    have R2 : RR ρ M := by rw [hρ]; exact hR.fr (FrQ.m zt)
    have r39 : ρ 39 = M 39 := R2.1
    have r40 : ρ 40 = t := by rw [hρ, sr_r]
    have r9 : ρ 38 9 = M 38 9 := R2.2.2.2.2.1
    have r44 : ρ 44 = M 44 := R2.2.2.2.2.2.2.1
    have q2 : ρ 44 i = M 44 i := by rw [r44]
    have q3 : ρ 39 0 = M 39 0 := by rw [r39]
    rw [← hρ]
    have eP : ρ 40 (57 + 3 * p + 1) = aP t p 1 := by rw [r40]; rfl
    have eM : ρ 40 (57 + 3 * p + 2) = aP t p 2 := by rw [r40]; rfl
    refine ks_iload (n := 49) S dX5_walk_47 rfl rfl ?_
    refine ks_aload_n (n := 50) S dX5_walk_49 rfl rfl ?_
    refine ks_getI (n := 53) (fi := 9) S dX5_walk_50 rfl fl_X5_188 rfl rfl rfl ?_
    refine ks_icmp_ge (n := 56) (tgt := 128) S dX5_walk_53 rfl rfl (fun h53 => ?_) (fun h53 => ?_)
    · skip
      have hv1 : m_wk (M 44) p (M 38 9).toNat 0 (M 39) = (t, b) := by
        rcases hd with h | h
        · rw [h.2, h.1, m_wk_0 (by omega)]
        · exact h.2
      refine ks_iload_n (n := 129) S dX5_walk_128 rfl rfl ?_
      refine ks_if_ne (n := 132) (tgt := 136) S dX5_walk_129 rfl rfl (fun h129 => ?_) (fun h129 => ?_)
      · skip
        refine ks_aload_n (n := 137) S dX5_walk_136 rfl rfl ?_
        refine ks_getr (n := 140) S dX5_walk_137 rfl fl_X5_13 rfl rfl ?_
        refine ks_iload_n (n := 141) S dX5_walk_140 rfl rfl ?_
        refine ks_iconst (n := 142) S dX5_walk_141 rfl (by unfold iv; decide) ?_
        refine kf_s2i (n := 145) S dX5_walk_142 rfl ml_X5_55 ym_X5_ofP (ev_X5_ofP (by omega) (by omega)) (by decide) (Nat.le_of_ble_eq_true rfl) ?_
        refine ks_iaload (n := 146) S dX5_walk_145 rfl rfl (by omega) ?_
        refine ks_iret S dX5_walk_146 ?_
        rw [hρ]
        refine qr_t hR (FrQ.m zt) ?_
        unfold A_walk
        rw [if_neg (by omega), if_neg (by omega), hv1]
        first | rw [if_pos (by omega)] | (rw [if_neg (by omega), ← hρ, eM])
      · skip
        refine ks_iload_n (n := 133) S dX5_walk_132 rfl rfl ?_
        refine ks_goto (n := 146) S dX5_walk_133 rfl ?_
        refine ks_iret S dX5_walk_146 ?_
        rw [hρ]
        refine qr_t hR (FrQ.m zt) ?_
        unfold A_walk
        rw [if_neg (by omega), if_neg (by omega), hv1]
        first | rw [if_pos (by omega)] | (rw [if_neg (by omega), ← hρ, eM])
    · skip
      refine ks_iload_n (n := 57) S dX5_walk_56 rfl rfl ?_
      refine ks_if_ge (n := 60) (tgt := 128) S dX5_walk_57 rfl rfl (fun h57 => ?_) (fun h57 => ?_)
      · skip
        have hv1 : m_wk (M 44) p (M 38 9).toNat 0 (M 39) = (t, b) := by
          rcases hd with h | h
          · rw [h.2, h.1, m_wk_0 (by omega)]
          · exact h.2
        refine ks_iload_n (n := 129) S dX5_walk_128 rfl rfl ?_
        refine ks_if_ne (n := 132) (tgt := 136) S dX5_walk_129 rfl rfl (fun h129 => ?_) (fun h129 => ?_)
        · skip
          refine ks_aload_n (n := 137) S dX5_walk_136 rfl rfl ?_
          refine ks_getr (n := 140) S dX5_walk_137 rfl fl_X5_13 rfl rfl ?_
          refine ks_iload_n (n := 141) S dX5_walk_140 rfl rfl ?_
          refine ks_iconst (n := 142) S dX5_walk_141 rfl (by unfold iv; decide) ?_
          refine kf_s2i (n := 145) S dX5_walk_142 rfl ml_X5_55 ym_X5_ofP (ev_X5_ofP (by omega) (by omega)) (by decide) (Nat.le_of_ble_eq_true rfl) ?_
          refine ks_iaload (n := 146) S dX5_walk_145 rfl rfl (by omega) ?_
          refine ks_iret S dX5_walk_146 ?_
          rw [hρ]
          refine qr_t hR (FrQ.m zt) ?_
          unfold A_walk
          rw [if_neg (by omega), if_neg (by omega), hv1]
          first | rw [if_pos (by omega)] | (rw [if_neg (by omega), ← hρ, eM])
        · skip
          refine ks_iload_n (n := 133) S dX5_walk_132 rfl rfl ?_
          refine ks_goto (n := 146) S dX5_walk_133 rfl ?_
          refine ks_iret S dX5_walk_146 ?_
          rw [hρ]
          refine qr_t hR (FrQ.m zt) ?_
          unfold A_walk
          rw [if_neg (by omega), if_neg (by omega), hv1]
          first | rw [if_pos (by omega)] | (rw [if_neg (by omega), ← hρ, eM])
      · skip
        have hb9 : b = -9 := by rcases hd with h | h; exact h.1; omega
        have hd : m_wk (M 44) p (M 38 9).toNat 0 (M 39) = m_wk (M 44) p (M 38 9 - i).toNat i t := by rcases hd with h | h; exact h.2; omega
        rw [m_wk_s (by omega)] at hd
        refine ks_aload_n (n := 61) S dX5_walk_60 rfl rfl ?_
        refine ks_aload_n (n := 62) S dX5_walk_61 rfl rfl ?_
        refine ks_getr (n := 65) S dX5_walk_62 rfl fl_X5_25 rfl rfl ?_
        refine ks_iload (n := 67) S dX5_walk_65 rfl rfl ?_
        refine ks_iaload (n := 68) S dX5_walk_67 rfl rfl (by omega) ?_
        refine kf_v1z (n := 71) S dX5_walk_68 rfl ml_X5_120 ym_X5_isDoor (ev_X5_isDoor (by rw [r39]; exact n9)) (by decide) rfl (Nat.le_of_ble_eq_true rfl) ?_
        refine ks_if_eq (n := 74) (tgt := 119) S dX5_walk_71 rfl rfl (fun h71 => ?_) (fun h71 => ?_)
        · skip
          simp only [bi_eq, bi_ne, Classical.not_not] at h71
          rw [q2, q3] at h71
          refine ks_iload (n := 121) S dX5_walk_119 rfl rfl ?_
          refine ks_istore_n (n := 122) S dX5_walk_121 rfl rfl (L' := fun y => [some (kr 38), some (ki p), some (ki w), some (ki y), some (ki i)]) (Nat.le_of_ble_eq_true rfl) (fun _ => rfl) (fun v3_121 hv121 => ?_)
          subst v3_121
          refine ks_iinc (n := 125) S dX5_walk_122 rfl rfl (by omega) (L' := fun y => [some (kr 38), some (ki p), some (ki w), some (ki _), some (ki y)]) (fun _ => rfl) (fun v4_122 hv122 => ?_)
          subst v4_122
          refine ks_goto (n := 47) S dX5_walk_125 rfl ?_
          first | (rw [if_neg (fun h => h71 (by omega))] at hd; rw [hρ]; exact ih (i, t) (by omega) ⟨by omega, okt, zt, t0, t1, Or.inr ⟨i0, hd⟩⟩) | (rw [if_neg (fun h => h98 h.2)] at hd; rw [hρ]; exact ih (i, t) (by omega) ⟨by omega, okt, zt, t0, t1, Or.inr ⟨i0, hd⟩⟩) | (rw [if_pos ⟨by omega, h98⟩] at hd; exact ih (b, m_open t p (M 44 i)) (by omega) ⟨by omega, m_open_ok okt (by omega) (by omega) h98, m_open_z zt (by omega) (by omega), z.1.trans t0, z.2.1.trans t1, Or.inl ⟨hb9, hd⟩⟩)
        · skip
          simp only [bi_eq, bi_ne, Classical.not_not] at h71
          rw [q2, q3] at h71
          refine ks_aload_n (n := 75) S dX5_walk_74 rfl rfl ?_
          refine ks_getr (n := 78) S dX5_walk_75 rfl fl_X5_13 rfl rfl ?_
          refine ks_aload_n (n := 79) S dX5_walk_78 rfl rfl ?_
          refine ks_getr (n := 82) S dX5_walk_79 rfl fl_X5_25 rfl rfl ?_
          refine ks_iload (n := 84) S dX5_walk_82 rfl rfl ?_
          refine ks_iaload (n := 85) S dX5_walk_84 rfl rfl (by omega) ?_
          refine ks_aload_n (n := 86) S dX5_walk_85 rfl rfl ?_
          refine ks_getr (n := 89) S dX5_walk_86 rfl fl_X5_13 rfl rfl ?_
          refine ks_iload_n (n := 90) S dX5_walk_89 rfl rfl ?_
          refine ks_iconst (n := 91) S dX5_walk_90 rfl (by unfold iv; decide) ?_
          refine kf_s2i (n := 94) S dX5_walk_91 rfl ml_X5_55 ym_X5_ofP (ev_X5_ofP (by omega) (by omega)) (by decide) (Nat.le_of_ble_eq_true rfl) ?_
          refine ks_iaload (n := 95) S dX5_walk_94 rfl rfl (by omega) ?_
          refine kf_s3z (n := 98) S dX5_walk_95 rfl ml_X5_123 ym_X5_isOf (ev_X5_isOf rfl (by omega)) (by decide) (Nat.le_of_ble_eq_true rfl) ?_
          refine ks_if_eq (n := 101) (tgt := 119) S dX5_walk_98 rfl rfl (fun h98 => ?_) (fun h98 => ?_)
          · skip
            simp only [bi_eq, bi_ne, Classical.not_not] at h98
            rw [q2, eP, r40] at h98
            refine ks_iload (n := 121) S dX5_walk_119 rfl rfl ?_
            refine ks_istore_n (n := 122) S dX5_walk_121 rfl rfl (L' := fun y => [some (kr 38), some (ki p), some (ki w), some (ki y), some (ki i)]) (Nat.le_of_ble_eq_true rfl) (fun _ => rfl) (fun v3_121 hv121 => ?_)
            subst v3_121
            refine ks_iinc (n := 125) S dX5_walk_122 rfl rfl (by omega) (L' := fun y => [some (kr 38), some (ki p), some (ki w), some (ki _), some (ki y)]) (fun _ => rfl) (fun v4_122 hv122 => ?_)
            subst v4_122
            refine ks_goto (n := 47) S dX5_walk_125 rfl ?_
            first | (rw [if_neg (fun h => h71 (by omega))] at hd; rw [hρ]; exact ih (i, t) (by omega) ⟨by omega, okt, zt, t0, t1, Or.inr ⟨i0, hd⟩⟩) | (rw [if_neg (fun h => h98 h.2)] at hd; rw [hρ]; exact ih (i, t) (by omega) ⟨by omega, okt, zt, t0, t1, Or.inr ⟨i0, hd⟩⟩) | (rw [if_pos ⟨by omega, h98⟩] at hd; exact ih (b, m_open t p (M 44 i)) (by omega) ⟨by omega, m_open_ok okt (by omega) (by omega) h98, m_open_z zt (by omega) (by omega), z.1.trans t0, z.2.1.trans t1, Or.inl ⟨hb9, hd⟩⟩)
          · skip
            simp only [bi_eq, bi_ne, Classical.not_not] at h98
            rw [q2, eP, r40] at h98
            refine ks_aload_n (n := 102) S dX5_walk_101 rfl rfl ?_
            refine ks_getr (n := 105) S dX5_walk_102 rfl fl_X5_13 rfl rfl ?_
            refine ks_iload_n (n := 106) S dX5_walk_105 rfl rfl ?_
            refine ks_aload_n (n := 107) S dX5_walk_106 rfl rfl ?_
            refine ks_getr (n := 110) S dX5_walk_107 rfl fl_X5_25 rfl rfl ?_
            refine ks_iload (n := 112) S dX5_walk_110 rfl rfl ?_
            refine ks_iaload (n := 113) S dX5_walk_112 rfl rfl (by omega) ?_
            refine kf_s3v (n := 116) S dX5_walk_113 rfl ml_X5_127 ym_X5_opensIn (ev_X5_opensIn rfl (by rw [r40]; exact okt) (by rw [r40]; omega) (by rw [r40]; omega)) (by decide) (Nat.le_of_ble_eq_true rfl) ?_
            have z := m_open_012 (a := t) (p := p) (d := M 44 i) (by omega) (by omega)
            rw [r40, q2, hρ, sr_sr]
            refine ks_goto (n := 122) S dX5_walk_116 rfl ?_
            refine ks_iinc (n := 125) S dX5_walk_122 rfl rfl (by omega) (L' := fun y => [some (kr 38), some (ki p), some (ki w), some (ki b), some (ki y)]) (fun _ => rfl) (fun v4_122 hv122 => ?_)
            subst v4_122
            refine ks_goto (n := 47) S dX5_walk_125 rfl ?_
            first | (rw [if_neg (fun h => h71 (by omega))] at hd; rw [hρ]; exact ih (i, t) (by omega) ⟨by omega, okt, zt, t0, t1, Or.inr ⟨i0, hd⟩⟩) | (rw [if_neg (fun h => h98 h.2)] at hd; rw [hρ]; exact ih (i, t) (by omega) ⟨by omega, okt, zt, t0, t1, Or.inr ⟨i0, hd⟩⟩) | (rw [if_pos ⟨by omega, h98⟩] at hd; exact ih (b, m_open t p (M 44 i)) (by omega) ⟨by omega, m_open_ok okt (by omega) (by omega) h98, m_open_z zt (by omega) (by omega), z.1.trans t0, z.2.1.trans t1, Or.inl ⟨hb9, hd⟩⟩)
  refine ks_aload_n (n := 1) S dX5_walk_0 rfl rfl ?_
  refine ks_iload_n (n := 2) S dX5_walk_1 rfl rfl ?_
  refine kf_v1z (n := 5) S dX5_walk_2 rfl ml_X5_117 ym_X5_isPerson (ev_X5_isPerson (by rw [e39]; exact n6)) (by decide) rfl (Nat.le_of_ble_eq_true rfl) ?_
  refine ks_if_ne (n := 8) (tgt := 14) S dX5_walk_5 rfl rfl (fun h5 => ?_) (fun h5 => ?_)
  · skip
    simp only [bi_eq, bi_ne, Classical.not_not] at h5
    refine ks_iload_n (n := 15) S dX5_walk_14 rfl rfl ?_
    refine ks_iconst (n := 16) S dX5_walk_15 rfl (by unfold iv; decide) ?_
    refine ks_iconst (n := 17) S dX5_walk_16 rfl (by unfold iv; decide) ?_
    refine kf_s3z (n := 20) S dX5_walk_17 rfl ml_X5_44 ym_X5_isIn (ev_X5_isIn) (by decide) (Nat.le_of_ble_eq_true rfl) ?_
    refine ks_if_ne (n := 23) (tgt := 30) S dX5_walk_20 rfl rfl (fun h20 => ?_) (fun h20 => ?_)
    · skip
      simp only [bi_eq, bi_ne, Classical.not_not] at h20
      refine ks_aload_n (n := 31) S dX5_walk_30 rfl rfl ?_
      refine ks_getr (n := 34) S dX5_walk_31 rfl fl_X5_9 rfl rfl ?_
      refine ks_aload_n (n := 35) S dX5_walk_34 rfl rfl ?_
      refine ks_getr (n := 38) S dX5_walk_35 rfl fl_X5_13 rfl rfl ?_
      refine kf_s2v (n := 41) S dX5_walk_38 rfl ml_X5_137 ym_X5_copies (ev_X5_copies rfl rfl (by decide) (by rw [e39]; exact z39) hR.2.2.2.2.2.2.2.2.1) (by decide) (Nat.le_of_ble_eq_true rfl) ?_
      refine ks_bipush (n := 43) S dX5_walk_41 rfl (by unfold iv; decide) ?_
      refine ks_istore_n (n := 44) S dX5_walk_43 rfl rfl (L' := fun y => [some (kr 38), some (ki p), some (ki w), some (ki y), none]) (Nat.le_of_ble_eq_true rfl) (fun _ => rfl) (fun v3_43 hv43 => ?_)
      obtain rfl : v3_43 = -9 := by omega
      refine ks_iconst (n := 45) S dX5_walk_44 rfl (by unfold iv; decide) ?_
      refine ks_istore (n := 47) S dX5_walk_45 rfl (L' := fun y => [some (kr 38), some (ki p), some (ki w), some (ki (-9)), some (ki y)]) (Nat.le_of_ble_eq_true rfl) (fun _ => rfl) (fun v4_45 hv45 => ?_)
      obtain rfl : v4_45 = 0 := by omega
      rw [e39]
      exact lp (by omega) (by omega) 0 (-9, M 39) m9.1 ⟨by omega, ok, z39, rfl, rfl, Or.inl ⟨rfl, by rw [Int.sub_zero]⟩⟩
    · skip
      simp only [bi_eq, bi_ne, Classical.not_not] at h20
      refine ks_aload_n (n := 24) S dX5_walk_23 rfl rfl ?_
      refine ks_bipush (n := 26) S dX5_walk_24 rfl (by unfold iv; decide) ?_
      refine kf_v1i (n := 29) S dX5_walk_26 rfl ml_X5_38 ym_X5_no (ev_X5_no (by omega)) (by decide) rfl (Nat.le_of_ble_eq_true rfl) ?_
      refine ks_iret S dX5_walk_29 ?_
      exact qr_r hR (by unfold A_walk; (repeat' split) <;> first | rfl | omega)
  · skip
    simp only [bi_eq, bi_ne, Classical.not_not] at h5
    refine ks_aload_n (n := 9) S dX5_walk_8 rfl rfl ?_
    refine ks_iconst (n := 10) S dX5_walk_9 rfl (by unfold iv; decide) ?_
    refine kf_v1i (n := 13) S dX5_walk_10 rfl ml_X5_38 ym_X5_no (ev_X5_no (by omega)) (by decide) rfl (Nat.le_of_ble_eq_true rfl) ?_
    refine ks_iret S dX5_walk_13 ?_
    exact qr_r hR (by unfold A_walk; (repeat' split) <;> first | rfl | omega)
end PUB5

