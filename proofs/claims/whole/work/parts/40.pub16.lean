section PUB16
variable {l : Launch} {σ M : KS}
theorem bt_or {n k : Int} (hn : 0 ≤ n ∧ n < 128) (hk : 0 ≤ k ∧ k < 7) : (0 ≤ ib_or n (ib_shl 1 k) ∧ ib_or n (ib_shl 1 k) < 128) ∧ ∀ q, 0 ≤ q → q < 7 → (m_bt (ib_or n (ib_shl 1 k)) q = 1 ↔ (m_bt n q = 1 ∨ q = k)) := by
  have key : ∀ x : Fin 128, ∀ y : Fin 7, (0 ≤ ib_or ((x : Nat) : Int) (ib_shl 1 ((y : Nat) : Int)) ∧ ib_or ((x : Nat) : Int) (ib_shl 1 ((y : Nat) : Int)) < 128) ∧ ∀ z : Fin 7, (m_bt (ib_or ((x : Nat) : Int) (ib_shl 1 ((y : Nat) : Int))) ((z : Nat) : Int) = 1 ↔ (m_bt ((x : Nat) : Int) ((z : Nat) : Int) = 1 ∨ ((z : Nat) : Int) = ((y : Nat) : Int))) := by decide +kernel
  have h := key ⟨n.toNat, by omega⟩ ⟨k.toNat, by omega⟩
  rw [show (((⟨n.toNat, by omega⟩ : Fin 128) : Nat) : Int) = n by show ((n.toNat : Nat) : Int) = n; omega, show (((⟨k.toNat, by omega⟩ : Fin 7) : Nat) : Int) = k by show ((k.toNat : Nat) : Int) = k; omega] at h
  refine ⟨h.1, fun q q0 q1 => ?_⟩
  have hq := h.2 ⟨q.toNat, by omega⟩
  rw [show (((⟨q.toNat, by omega⟩ : Fin 7) : Nat) : Int) = q by show ((q.toNat : Nat) : Int) = q; omega] at hq
  exact hq
theorem bt_one {k : Int} (hk : 0 ≤ k ∧ k < 7) : (0 ≤ ib_shl 1 k ∧ ib_shl 1 k < 128) ∧ ∀ q, 0 ≤ q → q < 7 → (m_bt (ib_shl 1 k) q = 1 ↔ q = k) := by
  have key : ∀ y : Fin 7, (0 ≤ ib_shl 1 ((y : Nat) : Int) ∧ ib_shl 1 ((y : Nat) : Int) < 128) ∧ ∀ z : Fin 7, (m_bt (ib_shl 1 ((y : Nat) : Int)) ((z : Nat) : Int) = 1 ↔ ((z : Nat) : Int) = ((y : Nat) : Int)) := by decide +kernel
  have h := key ⟨k.toNat, by omega⟩
  rw [show (((⟨k.toNat, by omega⟩ : Fin 7) : Nat) : Int) = k by show ((k.toNat : Nat) : Int) = k; omega] at h
  refine ⟨h.1, fun q q0 q1 => ?_⟩
  have hq := h.2 ⟨q.toNat, by omega⟩
  rw [show (((⟨q.toNat, by omega⟩ : Fin 7) : Nat) : Int) = q by show ((q.toNat : Nat) : Int) = q; omega] at hq
  exact hq
def m_B2 (n n' k : Int) (p : Prop) : Prop := (0 ≤ n' ∧ n' < 128) ∧ ∀ q, 0 ≤ q → q < 7 → (m_bt n' q = 1 ↔ (m_bt n q = 1 ∨ (q = k ∧ p)))
theorem m_B2_t {n k : Int} {p : Prop} (hn : 0 ≤ n ∧ n < 128) (hk : 0 ≤ k ∧ k < 7) (h : p) : m_B2 n (ib_or n (ib_shl 1 k)) k p := ⟨(bt_or hn hk).1, fun q q0 q1 => by rw [(bt_or hn hk).2 q q0 q1]; simp only [h, and_true]⟩
theorem m_B2_f {n k : Int} {p : Prop} (hn : 0 ≤ n ∧ n < 128) (h : ¬ p) : m_B2 n (ib_or n 0) k p := by
  rw [ib_or_0 (by unfold iv; omega)]
  exact ⟨hn, fun q q0 q1 => by simp only [h, and_false, or_false]⟩
def m_nb (a : RW) (s q j : Int) : Prop := ∃ d, 0 ≤ d ∧ d < j ∧ ((q = aD a d 3 ∧ m_bt s (aD a d 2) = 1) ∨ (q = aD a d 2 ∧ m_bt s (aD a d 3) = 1))
theorem m_nb_s {a : RW} {s q j : Int} (h0 : 0 ≤ j) : m_nb a s q (j + 1) ↔ (m_nb a s q j ∨ ((q = aD a j 3 ∧ m_bt s (aD a j 2) = 1) ∨ (q = aD a j 2 ∧ m_bt s (aD a j 3) = 1))) := by
  constructor
  · rintro ⟨d, d0, d1, hd⟩
    by_cases e : d = j
    · rw [e] at hd; exact Or.inr hd
    · exact Or.inl ⟨d, d0, by omega, hd⟩
  · rintro (⟨d, d0, d1, hd⟩ | h)
    · exact ⟨d, d0, by omega, hd⟩
    · exact ⟨j, h0, by omega, h⟩
theorem m_nb_dz {a : RW} {s f q i : Int} (ok : OkR a) (hf : 0 ≤ f ∧ f < 7) (hq : 0 ≤ q ∧ q < 7) (hi : 0 ≤ i ∧ i < 7) (hs : ∀ q, 0 ≤ q → q < 7 → (m_bt s q = 1 ↔ m_dz a f q ≤ i)) : (m_bt s q = 1 ∨ m_nb a s q (a 0)) ↔ m_dz a f q ≤ i + 1 := by
  have hg : ∀ d, 0 ≤ d → d < a 0 → (fun _ => 0 : RW) d ≤ 108 := fun d _ _ => by show (0 : Int) ≤ 108; omega
  constructor
  · rintro (h | ⟨d, d0, d1, hd⟩)
    · have := (hs q hq.1 hq.2).mp h; omega
    · obtain ⟨o1, o2, o3, o4, o5, o6, o7, o8⟩ := ok.2.2.2.1 d d0 d1
      have he : m_dz a f (aD a d 2) ≤ m_dz a f (aD a d 3) + (100 * 0 + 1) ∧ m_dz a f (aD a d 3) ≤ m_dz a f (aD a d 2) + (100 * 0 + 1) := m_tl_edge ok hg hf ⟨d0, d1⟩ (Int.le_refl 0)
      rcases hd with ⟨e, h⟩ | ⟨e, h⟩
      · have := (hs _ (by omega) (by omega)).mp h
        rw [e]; omega
      · have := (hs _ (by omega) (by omega)).mp h
        rw [e]; omega
  · intro h
    by_cases e : q = f
    · left
      rw [hs q hq.1 hq.2, e, show m_dz a f f = 0 from m_tl_0 ok hg hf]
      exact hi.1
    · right
      obtain ⟨d, d0, d1, d2, d3, d4⟩ := m_tl_door ok hg hf hq e (by show m_dz a f q < _; omega)
      obtain ⟨y1, y2, -⟩ := m_by_r ok ⟨d0, d1⟩ d3
      have d4 : m_dz a f q = m_dz a f (m_by a d q) + (100 * 0 + 1) := d4
      have hb := (hs (m_by a d q) y1 y2).mpr (by omega)
      refine ⟨d, d0, d1, ?_⟩
      rcases d3 with h3 | h3
      · rw [show m_by a d q = aD a d 3 by unfold m_by; omega] at hb
        exact Or.inr ⟨h3.symm, hb⟩
      · rw [show m_by a d q = aD a d 2 by unfold m_by; omega] at hb
        exact Or.inl ⟨h3.symm, hb⟩
theorem m_dz_6 {a : RW} {f q : Int} (ok : OkR a) (hf : 0 ≤ f ∧ f < 7) (hq : 0 ≤ q ∧ q < 7) : m_dz a f q = 1000000000 ∨ (0 ≤ m_dz a f q ∧ m_dz a f q ≤ 6) := by
  have hg : ∀ d, 0 ≤ d → d < a 0 → (fun _ => 0 : RW) d ≤ 108 := fun d _ _ => by show (0 : Int) ≤ 108; omega
  have key : ∀ (n : Nat) (w : Int), 0 ≤ w ∧ w < 7 → m_dz a f w < 1000000000 → m_dz a f w ≤ n → m_dz a f w ≤ 6 := by
    intro n
    induction n with
    | zero => intro w _ _ h; omega
    | succ n ih =>
      intro w hw hfi hn
      have r := m_dz_rg ok hf hw
      unfold m_rg at r
      by_cases e : w = f
      · have h0 : m_dz a f f = 0 := m_tl_0 ok hg hf
        rw [e, h0]; omega
      · obtain ⟨d, d0, d1, d2, d3, d4⟩ := m_tl_door ok hg hf hw e hfi
        obtain ⟨y1, y2, -⟩ := m_by_r ok ⟨d0, d1⟩ d3
        have d4 : m_dz a f w = m_dz a f (m_by a d w) + (100 * 0 + 1) := d4
        have := ih (m_by a d w) ⟨y1, y2⟩ (by omega) (by omega)
        omega
  have r := m_dz_rg ok hf hq
  unfold m_rg at r
  by_cases hfi : m_dz a f q < 1000000000
  · have := key (m_dz a f q).toNat q hq hfi (by omega)
    omega
  · omega
set_option maxHeartbeats 4000000 in
theorem ev_X5_fewestFrom {f t : Int} (ok : OkR (σ 39)) (hf : 0 ≤ f ∧ f < 7) (ht : 0 ≤ t ∧ t < 7) : Ev l yX5_fewestFrom cX5_fewestFrom 7 (some .int) 1 21 [kr 38, ki f, ki t] σ (Rt (some (ki (m_di (m_dz (σ 39) f t)))) σ) := by
  have n9 := ok.1
  have hg : ∀ d, 0 ≤ d → d < σ 39 0 → (fun _ => 0 : RW) d ≤ 108 := fun d _ _ => by show (0 : Int) ≤ 108; omega
  have hrg := m_dz_rg ok hf ht
  have h6 := m_dz_6 ok hf ht
  unfold m_rg at hrg
  refine ev_intro ym_X5_fewestFrom.1 (Nat.le_of_ble_eq_true rfl) (fun hv hσ K S => ?_)
  have hv := hv
  show K 0 [some (kr 38), some (ki f), some (ki t), none, none, none, none] [] σ
  refine kq_use (kq_for (α := Int) 7 (fun i s => 0 ≤ i ∧ (0 ≤ s ∧ s < 128) ∧ (∀ q, 0 ≤ q → q < 7 → (m_bt s q = 1 ↔ m_dz (σ 39) f q ≤ i)) ∧ i ≤ m_dz (σ 39) f t) (fun i s => K 7 [some (kr 38), some (ki f), some (ki t), some (ki s), some (ki i), none, none] [] σ) ?_) (fun lp => ?_)
  · intro i s hi inv ih
    obtain ⟨i0, sb, hs, hlo⟩ := inv
    have hst := hs t ht.1 ht.2
    refine kq_use (fun (hi7 : i < 7) (hnt : ¬ m_bt s t = 1) => kq_for (α := Int) (σ 39 0) (fun j n => 0 ≤ j ∧ (0 ≤ n ∧ n < 128) ∧ ∀ q, 0 ≤ q → q < 7 → (m_bt n q = 1 ↔ (m_bt s q = 1 ∨ m_nb (σ 39) s q j))) (fun j n => K 31 [some (kr 38), some (ki f), some (ki t), some (ki s), some (ki i), some (ki n), some (ki j)] [] σ) ?_) (fun lp2 => ?_)
    · intro j n hj inv2 ih2
      obtain ⟨j0, nb, hn⟩ := inv2
      have e3 : σ 39 (3 + 6 * j + 2) = aD (σ 39) j 2 := rfl
      have e4 : σ 39 (3 + 6 * j + 3) = aD (σ 39) j 3 := rfl
      refine ks_iload (n := 33) S dX5_fewestFrom_31 rfl rfl ?_
      refine ks_aload_n (n := 34) S dX5_fewestFrom_33 rfl rfl ?_
      refine ks_getr (n := 37) S dX5_fewestFrom_34 rfl fl_X5_9 rfl rfl ?_
      refine ks_iconst (n := 38) S dX5_fewestFrom_37 rfl (by unfold iv; decide) ?_
      refine ks_iaload (n := 39) S dX5_fewestFrom_38 rfl rfl (by omega) ?_
      refine ks_icmp_ge (n := 42) (tgt := 128) S dX5_fewestFrom_39 rfl rfl (fun h39 => ?_) (fun h39 => ?_)
      · skip
        refine ks_iload (n := 130) S dX5_fewestFrom_128 rfl rfl ?_
        refine ks_istore_n (n := 131) S dX5_fewestFrom_130 rfl rfl (L' := fun yy => [some (kr 38), some (ki f), some (ki t), some (ki yy), some (ki i), some (ki n), some (ki j)]) (Nat.le_of_ble_eq_true rfl) (fun _ => rfl) (fun v3_130 hv130 => ?_)
        subst v3_130
        refine ks_iinc (n := 134) S dX5_fewestFrom_131 rfl rfl (by omega) (L' := fun yy => [some (kr 38), some (ki f), some (ki t), some (ki _), some (ki yy), some (ki n), some (ki j)]) (fun _ => rfl) (fun v4_131 hv131 => ?_)
        subst v4_131
        refine ks_goto (n := 7) S dX5_fewestFrom_134 rfl ?_
        refine ks_weak (L' := [some (kr 38), some (ki f), some (ki t), some (ki _), some (ki _), none, none]) S ((And.intro rfl (And.intro rfl (And.intro rfl (And.intro rfl (And.intro rfl True.intro)))))) ?_
        refine ih _ (by omega) ⟨by omega, nb, fun q q0 q1 => ?_, by omega⟩
        rw [hn q q0 q1, show j = σ 39 0 by omega]
        exact m_nb_dz ok hf ⟨q0, q1⟩ ⟨i0, hi7⟩ hs
      · skip
        obtain ⟨o1, o2, o3, o4, o5, o6, o7, o8⟩ := ok.2.2.2.1 j j0 (by omega)
        refine ks_iload (n := 44) S dX5_fewestFrom_42 rfl rfl ?_
        refine ks_iload_n (n := 45) S dX5_fewestFrom_44 rfl rfl ?_
        refine ks_aload_n (n := 46) S dX5_fewestFrom_45 rfl rfl ?_
        refine ks_getr (n := 49) S dX5_fewestFrom_46 rfl fl_X5_9 rfl rfl ?_
        refine ks_iload (n := 51) S dX5_fewestFrom_49 rfl rfl ?_
        refine ks_iconst (n := 52) S dX5_fewestFrom_51 rfl (by unfold iv; decide) ?_
        refine kf_s2i (n := 55) S dX5_fewestFrom_52 rfl ml_X5_48 ym_X5_ofD (ev_X5_ofD (by omega) (by omega)) (by decide) (Nat.le_of_ble_eq_true rfl) ?_
        refine ks_iaload (n := 56) S dX5_fewestFrom_55 rfl rfl (by omega) ?_
        rw [e3]
        refine kf_s2z (n := 59) S dX5_fewestFrom_56 rfl ml_X5_178 ym_X5_has (ev_X5_has) (by decide) (Nat.le_of_ble_eq_true rfl) ?_
        refine ks_if_eq (n := 62) (tgt := 78) S dX5_fewestFrom_59 rfl rfl (fun h59 => ?_) (fun h59 => ?_)
        · skip
          simp only [bi_eq, bi_ne, Classical.not_not] at h59
          refine ks_iconst (n := 79) S dX5_fewestFrom_78 rfl (by unfold iv; decide) ?_
          refine ks_ior (n := 80) S dX5_fewestFrom_79 rfl ?_
          refine ks_istore (n := 82) S dX5_fewestFrom_80 rfl (L' := fun yy => [some (kr 38), some (ki f), some (ki t), some (ki s), some (ki i), some (ki yy), some (ki j)]) (Nat.le_of_ble_eq_true rfl) (fun _ => rfl) (fun v5_80 hv80 => ?_)
          subst v5_80
          first | have b1 := m_B2_t (p := m_bt s (aD (σ 39) j 2) = 1) nb (k := aD (σ 39) j 3) (by omega) h59 | have b1 := m_B2_f (p := m_bt s (aD (σ 39) j 2) = 1) (k := aD (σ 39) j 3) nb h59
          refine ks_iload (n := 84) S dX5_fewestFrom_82 rfl rfl ?_
          refine ks_iload_n (n := 85) S dX5_fewestFrom_84 rfl rfl ?_
          refine ks_aload_n (n := 86) S dX5_fewestFrom_85 rfl rfl ?_
          refine ks_getr (n := 89) S dX5_fewestFrom_86 rfl fl_X5_9 rfl rfl ?_
          refine ks_iload (n := 91) S dX5_fewestFrom_89 rfl rfl ?_
          refine ks_iconst (n := 92) S dX5_fewestFrom_91 rfl (by unfold iv; decide) ?_
          refine kf_s2i (n := 95) S dX5_fewestFrom_92 rfl ml_X5_48 ym_X5_ofD (ev_X5_ofD (by omega) (by omega)) (by decide) (Nat.le_of_ble_eq_true rfl) ?_
          refine ks_iaload (n := 96) S dX5_fewestFrom_95 rfl rfl (by omega) ?_
          rw [e4]
          refine kf_s2z (n := 99) S dX5_fewestFrom_96 rfl ml_X5_178 ym_X5_has (ev_X5_has) (by decide) (Nat.le_of_ble_eq_true rfl) ?_
          refine ks_if_eq (n := 102) (tgt := 118) S dX5_fewestFrom_99 rfl rfl (fun h99 => ?_) (fun h99 => ?_)
          · skip
            simp only [bi_eq, bi_ne, Classical.not_not] at h99
            refine ks_iconst (n := 119) S dX5_fewestFrom_118 rfl (by unfold iv; decide) ?_
            refine ks_ior (n := 120) S dX5_fewestFrom_119 rfl ?_
            refine ks_istore (n := 122) S dX5_fewestFrom_120 rfl (L' := fun yy => [some (kr 38), some (ki f), some (ki t), some (ki s), some (ki i), some (ki yy), some (ki j)]) (Nat.le_of_ble_eq_true rfl) (fun _ => rfl) (fun v5_120 hv120 => ?_)
            subst v5_120
            first | have b2 := m_B2_t (p := m_bt s (aD (σ 39) j 3) = 1) b1.1 (k := aD (σ 39) j 2) (by omega) h99 | have b2 := m_B2_f (p := m_bt s (aD (σ 39) j 3) = 1) (k := aD (σ 39) j 2) b1.1 h99
            refine ks_iinc (n := 125) S dX5_fewestFrom_122 rfl rfl (by omega) (L' := fun yy => [some (kr 38), some (ki f), some (ki t), some (ki s), some (ki i), some (ki _), some (ki yy)]) (fun _ => rfl) (fun v6_122 hv122 => ?_)
            subst v6_122
            refine ks_goto (n := 31) S dX5_fewestFrom_125 rfl ?_
            refine ih2 _ (by omega) ⟨by omega, b2.1, fun q q0 q1 => ?_⟩
            rw [b2.2 q q0 q1, b1.2 q q0 q1, hn q q0 q1, m_nb_s j0, or_assoc, or_assoc]
          · skip
            simp only [bi_eq, bi_ne, Classical.not_not] at h99
            refine ks_iconst (n := 103) S dX5_fewestFrom_102 rfl (by unfold iv; decide) ?_
            refine ks_aload_n (n := 104) S dX5_fewestFrom_103 rfl rfl ?_
            refine ks_getr (n := 107) S dX5_fewestFrom_104 rfl fl_X5_9 rfl rfl ?_
            refine ks_iload (n := 109) S dX5_fewestFrom_107 rfl rfl ?_
            refine ks_iconst (n := 110) S dX5_fewestFrom_109 rfl (by unfold iv; decide) ?_
            refine kf_s2i (n := 113) S dX5_fewestFrom_110 rfl ml_X5_48 ym_X5_ofD (ev_X5_ofD (by omega) (by omega)) (by decide) (Nat.le_of_ble_eq_true rfl) ?_
            refine ks_iaload (n := 114) S dX5_fewestFrom_113 rfl rfl (by omega) ?_
            rw [e3]
            refine ks_ishl (n := 115) S dX5_fewestFrom_114 rfl ?_
            refine ks_goto (n := 119) S dX5_fewestFrom_115 rfl ?_
            refine ks_ior (n := 120) S dX5_fewestFrom_119 rfl ?_
            refine ks_istore (n := 122) S dX5_fewestFrom_120 rfl (L' := fun yy => [some (kr 38), some (ki f), some (ki t), some (ki s), some (ki i), some (ki yy), some (ki j)]) (Nat.le_of_ble_eq_true rfl) (fun _ => rfl) (fun v5_120 hv120 => ?_)
            subst v5_120
            first | have b2 := m_B2_t (p := m_bt s (aD (σ 39) j 3) = 1) b1.1 (k := aD (σ 39) j 2) (by omega) h99 | have b2 := m_B2_f (p := m_bt s (aD (σ 39) j 3) = 1) (k := aD (σ 39) j 2) b1.1 h99
            refine ks_iinc (n := 125) S dX5_fewestFrom_122 rfl rfl (by omega) (L' := fun yy => [some (kr 38), some (ki f), some (ki t), some (ki s), some (ki i), some (ki _), some (ki yy)]) (fun _ => rfl) (fun v6_122 hv122 => ?_)
            subst v6_122
            refine ks_goto (n := 31) S dX5_fewestFrom_125 rfl ?_
            refine ih2 _ (by omega) ⟨by omega, b2.1, fun q q0 q1 => ?_⟩
            rw [b2.2 q q0 q1, b1.2 q q0 q1, hn q q0 q1, m_nb_s j0, or_assoc, or_assoc]
        · skip
          simp only [bi_eq, bi_ne, Classical.not_not] at h59
          refine ks_iconst (n := 63) S dX5_fewestFrom_62 rfl (by unfold iv; decide) ?_
          refine ks_aload_n (n := 64) S dX5_fewestFrom_63 rfl rfl ?_
          refine ks_getr (n := 67) S dX5_fewestFrom_64 rfl fl_X5_9 rfl rfl ?_
          refine ks_iload (n := 69) S dX5_fewestFrom_67 rfl rfl ?_
          refine ks_iconst (n := 70) S dX5_fewestFrom_69 rfl (by unfold iv; decide) ?_
          refine kf_s2i (n := 73) S dX5_fewestFrom_70 rfl ml_X5_48 ym_X5_ofD (ev_X5_ofD (by omega) (by omega)) (by decide) (Nat.le_of_ble_eq_true rfl) ?_
          refine ks_iaload (n := 74) S dX5_fewestFrom_73 rfl rfl (by omega) ?_
          rw [e4]
          refine ks_ishl (n := 75) S dX5_fewestFrom_74 rfl ?_
          refine ks_goto (n := 79) S dX5_fewestFrom_75 rfl ?_
          refine ks_ior (n := 80) S dX5_fewestFrom_79 rfl ?_
          refine ks_istore (n := 82) S dX5_fewestFrom_80 rfl (L' := fun yy => [some (kr 38), some (ki f), some (ki t), some (ki s), some (ki i), some (ki yy), some (ki j)]) (Nat.le_of_ble_eq_true rfl) (fun _ => rfl) (fun v5_80 hv80 => ?_)
          subst v5_80
          first | have b1 := m_B2_t (p := m_bt s (aD (σ 39) j 2) = 1) nb (k := aD (σ 39) j 3) (by omega) h59 | have b1 := m_B2_f (p := m_bt s (aD (σ 39) j 2) = 1) (k := aD (σ 39) j 3) nb h59
          refine ks_iload (n := 84) S dX5_fewestFrom_82 rfl rfl ?_
          refine ks_iload_n (n := 85) S dX5_fewestFrom_84 rfl rfl ?_
          refine ks_aload_n (n := 86) S dX5_fewestFrom_85 rfl rfl ?_
          refine ks_getr (n := 89) S dX5_fewestFrom_86 rfl fl_X5_9 rfl rfl ?_
          refine ks_iload (n := 91) S dX5_fewestFrom_89 rfl rfl ?_
          refine ks_iconst (n := 92) S dX5_fewestFrom_91 rfl (by unfold iv; decide) ?_
          refine kf_s2i (n := 95) S dX5_fewestFrom_92 rfl ml_X5_48 ym_X5_ofD (ev_X5_ofD (by omega) (by omega)) (by decide) (Nat.le_of_ble_eq_true rfl) ?_
          refine ks_iaload (n := 96) S dX5_fewestFrom_95 rfl rfl (by omega) ?_
          rw [e4]
          refine kf_s2z (n := 99) S dX5_fewestFrom_96 rfl ml_X5_178 ym_X5_has (ev_X5_has) (by decide) (Nat.le_of_ble_eq_true rfl) ?_
          refine ks_if_eq (n := 102) (tgt := 118) S dX5_fewestFrom_99 rfl rfl (fun h99 => ?_) (fun h99 => ?_)
          · skip
            simp only [bi_eq, bi_ne, Classical.not_not] at h99
            refine ks_iconst (n := 119) S dX5_fewestFrom_118 rfl (by unfold iv; decide) ?_
            refine ks_ior (n := 120) S dX5_fewestFrom_119 rfl ?_
            refine ks_istore (n := 122) S dX5_fewestFrom_120 rfl (L' := fun yy => [some (kr 38), some (ki f), some (ki t), some (ki s), some (ki i), some (ki yy), some (ki j)]) (Nat.le_of_ble_eq_true rfl) (fun _ => rfl) (fun v5_120 hv120 => ?_)
            subst v5_120
            first | have b2 := m_B2_t (p := m_bt s (aD (σ 39) j 3) = 1) b1.1 (k := aD (σ 39) j 2) (by omega) h99 | have b2 := m_B2_f (p := m_bt s (aD (σ 39) j 3) = 1) (k := aD (σ 39) j 2) b1.1 h99
            refine ks_iinc (n := 125) S dX5_fewestFrom_122 rfl rfl (by omega) (L' := fun yy => [some (kr 38), some (ki f), some (ki t), some (ki s), some (ki i), some (ki _), some (ki yy)]) (fun _ => rfl) (fun v6_122 hv122 => ?_)
            subst v6_122
            refine ks_goto (n := 31) S dX5_fewestFrom_125 rfl ?_
            refine ih2 _ (by omega) ⟨by omega, b2.1, fun q q0 q1 => ?_⟩
            rw [b2.2 q q0 q1, b1.2 q q0 q1, hn q q0 q1, m_nb_s j0, or_assoc, or_assoc]
          · skip
            simp only [bi_eq, bi_ne, Classical.not_not] at h99
            refine ks_iconst (n := 103) S dX5_fewestFrom_102 rfl (by unfold iv; decide) ?_
            refine ks_aload_n (n := 104) S dX5_fewestFrom_103 rfl rfl ?_
            refine ks_getr (n := 107) S dX5_fewestFrom_104 rfl fl_X5_9 rfl rfl ?_
            refine ks_iload (n := 109) S dX5_fewestFrom_107 rfl rfl ?_
            refine ks_iconst (n := 110) S dX5_fewestFrom_109 rfl (by unfold iv; decide) ?_
            refine kf_s2i (n := 113) S dX5_fewestFrom_110 rfl ml_X5_48 ym_X5_ofD (ev_X5_ofD (by omega) (by omega)) (by decide) (Nat.le_of_ble_eq_true rfl) ?_
            refine ks_iaload (n := 114) S dX5_fewestFrom_113 rfl rfl (by omega) ?_
            rw [e3]
            refine ks_ishl (n := 115) S dX5_fewestFrom_114 rfl ?_
            refine ks_goto (n := 119) S dX5_fewestFrom_115 rfl ?_
            refine ks_ior (n := 120) S dX5_fewestFrom_119 rfl ?_
            refine ks_istore (n := 122) S dX5_fewestFrom_120 rfl (L' := fun yy => [some (kr 38), some (ki f), some (ki t), some (ki s), some (ki i), some (ki yy), some (ki j)]) (Nat.le_of_ble_eq_true rfl) (fun _ => rfl) (fun v5_120 hv120 => ?_)
            subst v5_120
            first | have b2 := m_B2_t (p := m_bt s (aD (σ 39) j 3) = 1) b1.1 (k := aD (σ 39) j 2) (by omega) h99 | have b2 := m_B2_f (p := m_bt s (aD (σ 39) j 3) = 1) (k := aD (σ 39) j 2) b1.1 h99
            refine ks_iinc (n := 125) S dX5_fewestFrom_122 rfl rfl (by omega) (L' := fun yy => [some (kr 38), some (ki f), some (ki t), some (ki s), some (ki i), some (ki _), some (ki yy)]) (fun _ => rfl) (fun v6_122 hv122 => ?_)
            subst v6_122
            refine ks_goto (n := 31) S dX5_fewestFrom_125 rfl ?_
            refine ih2 _ (by omega) ⟨by omega, b2.1, fun q q0 q1 => ?_⟩
            rw [b2.2 q q0 q1, b1.2 q q0 q1, hn q q0 q1, m_nb_s j0, or_assoc, or_assoc]
    refine ks_iload (n := 9) S dX5_fewestFrom_7 rfl rfl ?_
    refine ks_bipush (n := 11) S dX5_fewestFrom_9 rfl (by unfold iv; decide) ?_
    refine ks_icmp_ge (n := 14) (tgt := 137) S dX5_fewestFrom_11 rfl rfl (fun h11 => ?_) (fun h11 => ?_)
    · skip
      refine ks_bipush (n := 139) S dX5_fewestFrom_137 rfl (by unfold iv; decide) ?_
      refine ks_iret S dX5_fewestFrom_139 ?_
      exact rt_e (by unfold m_di; rw [if_pos (by omega)])
    · skip
      refine ks_iload_n (n := 15) S dX5_fewestFrom_14 rfl rfl ?_
      refine ks_iload_n (n := 16) S dX5_fewestFrom_15 rfl rfl ?_
      refine kf_s2z (n := 19) S dX5_fewestFrom_16 rfl ml_X5_178 ym_X5_has (ev_X5_has) (by decide) (Nat.le_of_ble_eq_true rfl) ?_
      refine ks_if_eq (n := 22) (tgt := 25) S dX5_fewestFrom_19 rfl rfl (fun h19 => ?_) (fun h19 => ?_)
      · skip
        simp only [bi_eq, bi_ne, Classical.not_not] at h19
        refine ks_iload_n (n := 26) S dX5_fewestFrom_25 rfl rfl ?_
        refine ks_istore (n := 28) S dX5_fewestFrom_26 rfl (L' := fun yy => [some (kr 38), some (ki f), some (ki t), some (ki s), some (ki i), some (ki yy), none]) (Nat.le_of_ble_eq_true rfl) (fun _ => rfl) (fun v5_26 hv26 => ?_)
        subst v5_26
        refine ks_iconst (n := 29) S dX5_fewestFrom_28 rfl (by unfold iv; decide) ?_
        refine ks_istore (n := 31) S dX5_fewestFrom_29 rfl (L' := fun yy => [some (kr 38), some (ki f), some (ki t), some (ki s), some (ki i), some (ki _), some (ki yy)]) (Nat.le_of_ble_eq_true rfl) (fun _ => rfl) (fun v6_29 hv29 => ?_)
        obtain rfl : v6_29 = 0 := by omega
        refine lp2 (by omega) (by assumption) 0 _ n9.1 ⟨by omega, sb, fun q q0 q1 => ?_⟩
        constructor
        · exact Or.inl
        · rintro (h | ⟨d, d0, d1, -⟩)
          · exact h
          · omega
      · skip
        simp only [bi_eq, bi_ne, Classical.not_not] at h19
        refine ks_iload (n := 24) S dX5_fewestFrom_22 rfl rfl ?_
        refine ks_iret S dX5_fewestFrom_24 ?_
        have := hst.mp (by assumption)
        exact rt_e (by unfold m_di; rw [if_neg (by omega)]; omega)
  refine ks_iconst (n := 1) S dX5_fewestFrom_0 rfl (by unfold iv; decide) ?_
  refine ks_iload_n (n := 2) S dX5_fewestFrom_1 rfl rfl ?_
  refine ks_ishl (n := 3) S dX5_fewestFrom_2 rfl ?_
  refine ks_istore_n (n := 4) S dX5_fewestFrom_3 rfl rfl (L' := fun yy => [some (kr 38), some (ki f), some (ki t), some (ki yy), none, none, none]) (Nat.le_of_ble_eq_true rfl) (fun _ => rfl) (fun v3_3 hv3 => ?_)
  subst v3_3
  refine ks_iconst (n := 5) S dX5_fewestFrom_4 rfl (by unfold iv; decide) ?_
  refine ks_istore (n := 7) S dX5_fewestFrom_5 rfl (L' := fun yy => [some (kr 38), some (ki f), some (ki t), some (ki _), some (ki yy), none, none]) (Nat.le_of_ble_eq_true rfl) (fun _ => rfl) (fun v4_5 hv5 => ?_)
  obtain rfl : v4_5 = 0 := by omega
  refine lp 0 _ (by omega) ⟨by omega, (bt_one hf).1, fun q q0 q1 => ?_, by omega⟩
  rw [(bt_one hf).2 q q0 q1]
  constructor
  · intro e; rw [e]; exact Int.le_of_eq (m_tl_0 ok hg hf)
  · intro e
    by_cases hqf : q = f
    · exact hqf
    · have : 1 ≤ m_dz (σ 39) f q := m_tl_pos ok hg hf ⟨q0, q1⟩ hqf
      omega
end PUB16

