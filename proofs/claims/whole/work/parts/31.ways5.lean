section WAYS5
variable {l : Launch} {σ M : KS} {a g : RW} {c r : Nat}
theorem m_rn_g {a g g' T : RW} : ∀ n : Nat, (∀ d, 0 ≤ d → d < (n : Int) → g d = g' d) → m_rn a g T n = m_rn a g' T n := by
  intro n
  induction n with
  | zero => intro _; rfl
  | succ n ih =>
    intro h
    show m_rx (m_rn a g T n) _ _ (g n) = m_rx (m_rn a g' T n) _ _ (g' n)
    rw [ih (fun d d0 d1 => h d d0 (by omega)), h n (by omega) (by omega)]
theorem m_rr_g {a g g' T : RW} (n0 : 0 ≤ a 0) (h : ∀ d, 0 ≤ d → d < a 0 → g d = g' d) : ∀ n : Nat, m_rr a g T n = m_rr a g' T n := by
  intro n
  induction n with
  | zero => rfl
  | succ n ih =>
    show m_rn a g (m_rr a g T n) _ = m_rn a g' (m_rr a g' T n) _
    rw [ih]
    exact m_rn_g _ (fun d d0 d1 => h d d0 (by omega))
theorem m_tl_g {a g g' : RW} {room : Int} (n0 : 0 ≤ a 0) (h : ∀ d, 0 ≤ d → d < a 0 → g d = g' d) : m_tl a g room = m_tl a g' room := m_rr_g n0 h 7
theorem m_ga_0 {d : Int} (ok : OkR a) (hd : 0 ≤ d ∧ d < a 0) : m_ga a 0 d = m_gv a d := by
  obtain ⟨o1, o2, o3, o4, o5, o6, o7, o8⟩ := ok.2.2.2.1 d hd.1 hd.2
  unfold m_ga m_gv m_mx
  rw [Int.zero_mul, Int.sub_zero]
  split
  · rfl
  · rw [show aD a d 4 = 0 by omega]
theorem m_gv_b {d : Int} (ok : OkR a) (hd : 0 ≤ d ∧ d < a 0) : 0 ≤ m_gv a d ∧ m_gv a d ≤ 108 := by
  rw [← m_ga_0 ok hd]; exact m_ga_b ok (by omega) hd
theorem m_PI_tl {room : Int} (ok : OkR a) (hg : ∀ d, 0 ≤ d → d < a 0 → g d ≤ 108) (hr : 0 ≤ room ∧ room < 7) : m_PI (m_tl a g room) := m_PI_rr ok hg (m_PI_0 hr) 7
/-- what is given on the way, or -9 -/
def m_gi (t : Int) : Int := if 1000000000 ≤ t then -9 else t / 100
def m_di (t : Int) : Int := if 1000000000 ≤ t then -9 else t % 100
theorem m_f_gi {t : Int} (h : m_rg t) : (if 1000000 ≤ m_f t then -9 else m_f t / 16) = m_gi t := by
  unfold m_f m_gi; unfold m_rg at h; (repeat' split) <;> omega
theorem m_f_di {t : Int} (h : m_rg t) : (if 1000000 ≤ m_f t then -9 else m_f t % 16) = m_di t := by
  unfold m_f m_di; unfold m_rg at h; (repeat' split) <;> omega
theorem ev_X4_findWaysTo {room n : Int} (hM : OkM M) (hC : RC σ M) (hr : 0 ≤ room ∧ room < 7) (hn : 0 ≤ n ∧ n ≤ 60) (hg : ∀ d, 0 ≤ d → d < M 39 0 → g d = m_ga (M 39) n d) : Ev l yX4_findWaysTo cX4_findWaysTo 3 none 4 94 [kr 0, ki room, ki n] σ (fun q τ => q = none ∧ FrT σ τ ∧ m_PT τ (m_tl (M 39) g room) ∧ ∀ d, 0 ≤ d → d < M 39 0 → g d = τ 34 d ∧ 0 ≤ g d ∧ g d ≤ 108) := by
  have R := hC.1
  have ok := hM.1
  refine ev_intro ym_X4_findWaysTo.1 (Nat.le_of_ble_eq_true rfl) (fun hv hσ K S => ?_)
  have hv := hv
  show K 0 [some (kr 0), some (ki room), some (ki n)] [] σ
  refine ks_aload_n (n := 1) S dX4_findWaysTo_0 rfl rfl ?_
  refine ks_getr (n := 4) S dX4_findWaysTo_1 rfl fl_X4_36 rfl rfl ?_
  refine ks_aload_n (n := 5) S dX4_findWaysTo_4 rfl rfl ?_
  refine ks_getr (n := 8) S dX4_findWaysTo_5 rfl fl_X4_10 rfl rfl ?_
  refine ks_iload_n (n := 9) S dX4_findWaysTo_8 rfl rfl ?_
  refine ks_v2v (n := 12) S dX4_findWaysTo_9 rfl ml_X4_184 ym_X3_tollAfter (ev_X3_tollAfter kq_H1 R ok hn) (by decide) rfl (Nat.le_of_ble_eq_true rfl) (fun τ9 q9 => ?_)
  obtain ⟨q1, F1, hz⟩ := q9
  have T1 : FrT σ τ9 := fun e he => F1 e (by omega)
  have hgd : ∀ d, 0 ≤ d → d < M 39 0 → g d = τ9 34 d ∧ 0 ≤ g d ∧ g d ≤ 108 := fun d d0 d1 => by
    have := m_ga_b (d := d) ok hn.1 ⟨d0, d1⟩
    rw [hg d d0 d1]; exact ⟨(hz d d0 d1).symm, this.1, this.2⟩
  refine ks_aload_n (n := 13) S dX4_findWaysTo_12 rfl rfl ?_
  refine ks_getr (n := 16) S dX4_findWaysTo_13 rfl fl_X4_36 rfl rfl ?_
  refine ks_aload_n (n := 17) S dX4_findWaysTo_16 rfl rfl ?_
  refine ks_getr (n := 20) S dX4_findWaysTo_17 rfl fl_X4_10 rfl rfl ?_
  refine ks_iload_n (n := 21) S dX4_findWaysTo_20 rfl rfl ?_
  refine ks_v2v (n := 24) S dX4_findWaysTo_21 rfl ml_X4_180 ym_X3_leadTo (ev_X3_leadTo kq_H1 (hC.fr T1).1 ok hr (fun d d0 d1 => ⟨(hgd d d0 d1).1, by have := (hgd d d0 d1).2; omega, (hgd d d0 d1).2.2⟩)) (by decide) rfl (Nat.le_of_ble_eq_true rfl) (fun τ21 q21 => ?_)
  obtain ⟨q1, F2, hz2⟩ := q21
  refine ks_vret S dX4_findWaysTo_24 ?_
  exact ⟨rfl, T1.tr (fun e he => F2 e (by omega)), hz2, fun d d0 d1 => by rw [F2 34 (by decide)]; exact hgd d d0 d1⟩
theorem ev_X5_firstDoor {T : RW} {o : Int} (hr : kq_sh[r]? = some (.inl 75)) (ok : OkR (σ r)) (hP : m_EQ σ T) (hT : m_PI T) (ho : 0 ≤ o ∧ o < 7) : Ev l yX5_firstDoor cX5_firstDoor 4 (some .int) 3 65 [kr r, kr 47, ki o] σ (Rt (some (ki (m_fi (m_pd (σ r) (m_gv (σ r)) T o) (σ r 0).toNat 0))) σ) := by
  have n9 := ok.1
  have hpo := hP o ho.1 ho.2
  have hrg := hT.rg ho
  unfold m_rg at hrg
  refine ev_intro ym_X5_firstDoor.1 (Nat.le_of_ble_eq_true rfl) (fun hv hσ K S => ?_)
  have hv := hv
  show K 0 [some (kr r), some (kr 47), some (ki o), none] [] σ
  refine kq_use (kq_for (α := Unit) (σ r 0) (fun i _ => 0 ≤ i ∧ m_fi (m_pd (σ r) (m_gv (σ r)) T o) (σ r 0).toNat 0 = m_fi (m_pd (σ r) (m_gv (σ r)) T o) (σ r 0 - i).toNat i) (fun i _ => K 2 [some (kr r), some (kr 47), some (ki o), some (ki i)] [] σ) ?_) (fun lp => ?_)
  · intro i _ hi inv ih
    obtain ⟨i0, hd⟩ := inv
    refine ks_iload_n (n := 3) S dX5_firstDoor_2 rfl rfl ?_
    refine ks_aload_n (n := 4) S dX5_firstDoor_3 rfl rfl ?_
    refine ks_iconst (n := 5) S dX5_firstDoor_4 rfl (by unfold iv; decide) ?_
    refine ks_iaload (n := 6) S dX5_firstDoor_5 rfl hr (by omega) ?_
    refine ks_icmp_ge (n := 9) (tgt := 46) S dX5_firstDoor_6 rfl rfl (fun h6 => ?_) (fun h6 => ?_)
    · skip
      refine ks_bipush (n := 48) S dX5_firstDoor_46 rfl (by unfold iv; decide) ?_
      refine ks_iret S dX5_firstDoor_48 ?_
      exact rt_e (by rw [hd, m_fi_0 (by omega)])
    · skip
      refine ks_aload_n (n := 10) S dX5_firstDoor_9 rfl rfl ?_
      refine ks_iload_n (n := 11) S dX5_firstDoor_10 rfl rfl ?_
      refine ks_iload_n (n := 12) S dX5_firstDoor_11 rfl rfl ?_
      refine kf_s3z (n := 15) S dX5_firstDoor_12 rfl ml_X5_123 ym_X5_isOf (ev_X5_isOf hr (by omega)) (by decide) (Nat.le_of_ble_eq_true rfl) ?_
      refine ks_if_eq (n := 18) (tgt := 40) S dX5_firstDoor_15 rfl rfl (fun h15 => ?_) (fun h15 => ?_)
      · skip
        simp only [bi_eq, bi_ne, Classical.not_not] at h15
        refine ks_iinc (n := 43) S dX5_firstDoor_40 rfl rfl (by omega) (L' := fun yy => [some (kr r), some (kr 47), some (ki o), some (ki yy)]) (fun _ => rfl) (fun v3_40 hv40 => ?_)
        subst v3_40
        refine ks_goto (n := 2) S dX5_firstDoor_43 rfl ?_
        refine ih () (by omega) ⟨by omega, ?_⟩
        rw [hd, m_fi_s (by omega), if_neg]
        unfold m_pd
        rw [decide_eq_true_eq]
        first | exact fun h => h15 h.1 | exact fun h => h35 (by rw [hby, hpo]; exact h.2)
      · skip
        simp only [bi_eq, bi_ne, Classical.not_not] at h15
        obtain ⟨y1, y2, y3⟩ := m_by_r ok ⟨i0, by omega⟩ h15
        obtain ⟨g2, g3⟩ := m_gv_b ok ⟨i0, by omega⟩
        have hby := hP (m_by (σ r) i o) y1 y2
        have hbb := hT.rg ⟨y1, y2⟩
        unfold m_rg at hbb
        obtain ⟨o1, o2, o3, o4, o5, o6, o7, o8⟩ := ok.2.2.2.1 i i0 (by omega)
        refine ks_aload_n (n := 19) S dX5_firstDoor_18 rfl rfl ?_
        refine ks_iload_n (n := 20) S dX5_firstDoor_19 rfl rfl ?_
        refine ks_iaload (n := 21) S dX5_firstDoor_20 rfl rfl (by omega) ?_
        refine ks_aload_n (n := 22) S dX5_firstDoor_21 rfl rfl ?_
        refine ks_aload_n (n := 23) S dX5_firstDoor_22 rfl rfl ?_
        refine ks_iload_n (n := 24) S dX5_firstDoor_23 rfl rfl ?_
        refine ks_iload_n (n := 25) S dX5_firstDoor_24 rfl rfl ?_
        refine kf_s3i (n := 28) S dX5_firstDoor_25 rfl ml_X5_73 ym_X5_beyond (ev_X5_beyond hr (by omega) (by omega) (by omega) (by omega)) (by decide) (Nat.le_of_ble_eq_true rfl) ?_
        refine ks_iaload (n := 29) S dX5_firstDoor_28 rfl rfl (by omega) ?_
        refine ks_aload_n (n := 30) S dX5_firstDoor_29 rfl rfl ?_
        refine ks_iload_n (n := 31) S dX5_firstDoor_30 rfl rfl ?_
        refine kf_s2i (n := 34) S dX5_firstDoor_31 rfl ml_X5_165 ym_X5_tollOf (ev_X5_tollOf hr ok (by omega)) (by decide) (Nat.le_of_ble_eq_true rfl) ?_
        refine ks_iadd (n := 35) S dX5_firstDoor_34 rfl (by omega) ?_
        refine ks_icmp_ne (n := 38) (tgt := 40) S dX5_firstDoor_35 rfl rfl (fun h35 => ?_) (fun h35 => ?_)
        · skip
          refine ks_iinc (n := 43) S dX5_firstDoor_40 rfl rfl (by omega) (L' := fun yy => [some (kr r), some (kr 47), some (ki o), some (ki yy)]) (fun _ => rfl) (fun v3_40 hv40 => ?_)
          subst v3_40
          refine ks_goto (n := 2) S dX5_firstDoor_43 rfl ?_
          refine ih () (by omega) ⟨by omega, ?_⟩
          rw [hd, m_fi_s (by omega), if_neg]
          unfold m_pd
          rw [decide_eq_true_eq]
          first | exact fun h => h15 h.1 | exact fun h => h35 (by rw [hby, hpo]; exact h.2)
        · skip
          refine ks_iload_n (n := 39) S dX5_firstDoor_38 rfl rfl ?_
          refine ks_iret S dX5_firstDoor_39 ?_
          refine rt_e ?_
          rw [hd, m_fi_s (by omega), if_pos]
          unfold m_pd
          rw [decide_eq_true_eq]
          exact ⟨h15, by rw [← hby, ← hpo]; exact h35⟩
  refine ks_iconst (n := 1) S dX5_firstDoor_0 rfl (by unfold iv; decide) ?_
  refine ks_istore_n (n := 2) S dX5_firstDoor_1 rfl rfl (L' := fun yy => [some (kr r), some (kr 47), some (ki o), some (ki yy)]) (Nat.le_of_ble_eq_true rfl) (fun _ => rfl) (fun v3_1 hv1 => ?_)
  obtain rfl : v3_1 = 0 := by omega
  exact lp 0 () n9.1 ⟨by omega, by rw [Int.sub_zero]⟩
theorem ev_X5_givenBy {o room but : Int} (hr : kq_sh[r]? = some (.inl 75)) (hr47 : r ≠ 47) (ok : OkR (σ r)) (ho : 0 ≤ o ∧ o < 7) (hro : 0 ≤ room ∧ room < 7) : Ev l yX5_givenBy cX5_givenBy 5 (some .int) 4 92 [kr 38, kr r, ki o, ki room, ki but] σ (fun q τ => q = some (ki (m_gi (m_tl (σ r) (m_gb (σ r) but) room o))) ∧ (∀ e, e ≠ 47 → τ e = σ e)) := by
  have hT := m_PI_tl ok (fun d d0 d1 => (m_gb_b (but := but) ok ⟨d0, d1⟩).2) hro
  have hrg := hT.rg ho
  unfold m_rg at hrg
  refine ev_intro ym_X5_givenBy.1 (Nat.le_of_ble_eq_true rfl) (fun hv hσ K S => ?_)
  have hv := hv
  show K 0 [some (kr 38), some (kr r), some (ki o), some (ki room), some (ki but)] [] σ
  refine ks_aload_n (n := 1) S dX5_givenBy_0 rfl rfl ?_
  refine ks_aload_n (n := 2) S dX5_givenBy_1 rfl rfl ?_
  refine ks_iload_n (n := 3) S dX5_givenBy_2 rfl rfl ?_
  refine ks_iload (n := 5) S dX5_givenBy_3 rfl rfl ?_
  refine ks_v3v (n := 8) S dX5_givenBy_5 rfl ml_X5_171 ym_X5_tolls (ev_X5_tolls hr hr47 ok hro) (by decide) rfl (Nat.le_of_ble_eq_true rfl) (fun τ5 q5 => ?_)
  obtain ⟨q1, F1, hz⟩ := q5
  have hzo := hz o ho.1 ho.2
  refine ks_aload_n (n := 9) S dX5_givenBy_8 rfl rfl ?_
  refine ks_getr (n := 12) S dX5_givenBy_9 rfl fl_X5_34 rfl rfl ?_
  refine ks_iload_n (n := 13) S dX5_givenBy_12 rfl rfl ?_
  refine ks_iaload (n := 14) S dX5_givenBy_13 rfl rfl (by omega) ?_
  refine ks_ldc (n := 16) (x := 1000000000) S dX5_givenBy_14 rfl ct_X5_37 (by unfold iv; decide +kernel) ?_
  refine ks_icmp_lt (n := 19) (tgt := 24) S dX5_givenBy_16 rfl rfl (fun h16 => ?_) (fun h16 => ?_)
  · skip
    refine ks_aload_n (n := 25) S dX5_givenBy_24 rfl rfl ?_
    refine ks_getr (n := 28) S dX5_givenBy_25 rfl fl_X5_34 rfl rfl ?_
    refine ks_iload_n (n := 29) S dX5_givenBy_28 rfl rfl ?_
    refine ks_iaload (n := 30) S dX5_givenBy_29 rfl rfl (by omega) ?_
    refine ks_bipush (n := 32) S dX5_givenBy_30 rfl (by unfold iv; decide) ?_
    refine ks_idiv (n := 33) S dX5_givenBy_32 rfl (by omega) ?_
    refine ks_iret S dX5_givenBy_33 ?_
    refine ⟨?_, F1⟩
    unfold m_gi
    first | (rw [if_pos (by omega)]; done) | (rw [if_neg (by omega), ← hzo]; done)
  · skip
    refine ks_bipush (n := 21) S dX5_givenBy_19 rfl (by unfold iv; decide) ?_
    refine ks_goto (n := 33) S dX5_givenBy_21 rfl ?_
    refine ks_iret S dX5_givenBy_33 ?_
    refine ⟨?_, F1⟩
    unfold m_gi
    first | (rw [if_pos (by omega)]; done) | (rw [if_neg (by omega), ← hzo]; done)
theorem m_tl_9 {room : Int} (ok : OkR a) : m_tl a (m_gb a (-9)) room = m_tl a (m_gv a) room := m_tl_g ok.1.1 (fun d d0 d1 => if_neg (by omega))
theorem FrQ.t47 {τ : KS} (h : ∀ e, e ≠ 47 → τ e = σ e) (hz : Zr (σ 40)) : FrQ σ τ := ⟨fun c hc => h c (by omega), by rw [h 38 (by decide)], by rw [h 38 (by decide)], by rw [h 38 (by decide)], by rw [h 40 (by decide)]; exact hz⟩
end WAYS5

