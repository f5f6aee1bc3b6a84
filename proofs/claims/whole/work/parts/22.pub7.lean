section PUB7
variable {l : Launch} {σ M : KS}
/-- fewer locals are known -/
def kl_le : KL → KL → Prop
  | [], [] => True
  | none :: a, _ :: b => kl_le a b
  | some v :: a, o :: b => o = some v ∧ kl_le a b
  | _, _ => False
theorem kl_le_at : ∀ {a b : KL}, kl_le a b → a.length = b.length ∧ ∀ (i : Nat) (v : KV), a[i]? = some (some v) → b[i]? = some (some v)
  | [], [], _ => ⟨rfl, fun i v h => by simp at h⟩
  | none :: a, o :: b, h => by
    have h' : kl_le a b := h
    obtain ⟨h1, h2⟩ := kl_le_at h'
    refine ⟨by simp [h1], fun i v hi => ?_⟩
    cases i with
    | zero => simp at hi
    | succ j => simpa using h2 j v (by simpa using hi)
  | some w :: a, o :: b, h => by
    obtain ⟨h0, h'⟩ : o = some w ∧ kl_le a b := h
    obtain ⟨h1, h2⟩ := kl_le_at h'
    refine ⟨by simp [h1], fun i v hi => ?_⟩
    cases i with
    | zero => simp at hi; simp [h0, hi]
    | succ j => simpa using h2 j v (by simpa using hi)
  | none :: _, [], h => h.elim
  | some _ :: _, [], h => h.elim
  | [], _ :: _, h => h.elim
theorem ks_weak {cc : ByteArray} {own : String} {ret : Option FieldType} {fr lo : Nat} {Q : Option KV → KS → Prop} {K : Nat → KL → List KV → KS → Prop} {pc : Nat} {L L' : KL} {st : List KV} (S : Sem l cc own ret fr lo Q K) (h : kl_le L' L) (k : K pc L' st σ) : K pc L st σ := by
  obtain ⟨p, e, R, s, m, args, below, meth, c, ad, cA, D, A, H0, cells, slots, Qf, hx, hb, hown, hts, hR, hK, hN, hi, hA, hret, rfl⟩ := S
  obtain ⟨h1, h2⟩ := kl_le_at h
  intro hst hL hσ H locs ls hP hS hl hlen
  exact k hst (fun i v hi => hL i v (h2 i v hi)) hσ H locs ls hP hS ⟨by rw [hl.1, h1], hl.2.1, fun i v hi => hl.2.2 i v (h2 i v hi)⟩ (by rw [h1]; exact hlen)
theorem ib_and_nn (z : Int) : 0 ≤ ib_and z 2147483647 := by
  unfold ib_and
  have h : (Int32.ofInt z &&& Int32.ofInt 2147483647).toBitVec.msb = false := by
    rw [Int32.toBitVec_and, BitVec.msb_and]
    rw [show (Int32.ofInt 2147483647).toBitVec.msb = false by decide, Bool.and_false]
  show 0 ≤ (Int32.ofInt z &&& Int32.ofInt 2147483647).toBitVec.toInt
  rw [BitVec.toInt_eq_msb_cond, h]
  simp
theorem kq_si {x y : Int} (h : (some (ki x) : Option KV) = some (ki y)) : x = y := by cases h; rfl
def m_ns (z : Int) : Int := wr (wr (z * 1664525) + 1013904223)
def m_dn (z m : Int) : Int := ib_and z 2147483647 / 256 % m
theorem m_dn_b {z m : Int} (h : 0 < m) : 0 ≤ m_dn z m ∧ m_dn z m < m := ⟨Int.emod_nonneg _ (by omega), Int.emod_lt_of_pos _ h⟩
theorem ev_X4_nextSeed {z : Int} : Ev l yX4_nextSeed cX4_nextSeed 1 (some .int) 0 0 [ki z] σ (Rt (some (ki (m_ns z))) σ) := by
  refine ev_intro ym_X4_nextSeed.1 (Nat.le_of_ble_eq_true rfl) (fun hv hσ K S => ?_)
  have hv := hv
  show K 0 [some (ki z)] [] σ
  refine ks_iload_n (n := 1) S dX4_nextSeed_0 rfl rfl ?_
  refine ks_ldcw (n := 4) (x := 1664525) S dX4_nextSeed_1 rfl ct_X4_288 (by unfold iv; decide +kernel) ?_
  refine ks_imulW (n := 5) S dX4_nextSeed_4 rfl ?_
  refine ks_ldcw (n := 8) (x := 1013904223) S dX4_nextSeed_5 rfl ct_X4_289 (by unfold iv; decide +kernel) ?_
  refine ks_iaddW (n := 9) S dX4_nextSeed_8 rfl ?_
  refine ks_iret S dX4_nextSeed_9 ?_
  exact rt_r
theorem ev_X4_drawn {z m : Int} (h : 0 < m) : Ev l yX4_drawn cX4_drawn 2 (some .int) 0 0 [ki z, ki m] σ (Rt (some (ki (m_dn z m))) σ) := by
  have h1 := ib_and_nn z
  refine ev_intro ym_X4_drawn.1 (Nat.le_of_ble_eq_true rfl) (fun hv hσ K S => ?_)
  have hv := hv
  show K 0 [some (ki z), some (ki m)] [] σ
  refine ks_iload_n (n := 1) S dX4_drawn_0 rfl rfl ?_
  refine ks_iconst (n := 2) S dX4_drawn_1 rfl (by unfold iv; decide) ?_
  refine ks_icmp_ge (n := 5) (tgt := 9) S dX4_drawn_2 rfl rfl (fun h2 => ?_) (fun h2 => ?_)
  · skip
    refine ks_iload_n (n := 10) S dX4_drawn_9 rfl rfl ?_
    refine ks_ldcw (n := 13) (x := 2147483647) S dX4_drawn_10 rfl ct_X4_290 (by unfold iv; decide +kernel) ?_
    refine ks_iand (n := 14) S dX4_drawn_13 rfl ?_
    refine ks_sipush (n := 17) S dX4_drawn_14 rfl (by unfold iv; decide) ?_
    refine ks_idiv (n := 18) S dX4_drawn_17 rfl (by omega) ?_
    refine ks_iload_n (n := 19) S dX4_drawn_18 rfl rfl ?_
    refine ks_irem (n := 20) S dX4_drawn_19 rfl (by omega) ?_
    refine ks_iret S dX4_drawn_20 ?_
    first | exact rt_r | (exfalso; omega)
  · skip
    refine ks_iconst (n := 6) S dX4_drawn_5 rfl (by unfold iv; decide) ?_
    refine ks_goto (n := 20) S dX4_drawn_6 rfl ?_
    refine ks_iret S dX4_drawn_20 ?_
    first | exact rt_r | (exfalso; omega)
theorem ev_X5_drawn {m : Int} (h : 0 < m) : Ev l yX5_drawn cX5_drawn 2 (some .int) 0 0 [kr 38, ki m] σ (Rt (some (ki (m_dn (m_ns (σ 38 13)) m))) (kq_up σ 38 13 (m_ns (σ 38 13)))) := by
  have h1 := ib_and_nn (m_ns (σ 38 13))
  refine ev_intro ym_X5_drawn.1 (Nat.le_of_ble_eq_true rfl) (fun hv hσ K S => ?_)
  have hv := hv
  show K 0 [some (kr 38), some (ki m)] [] σ
  refine ks_aload_n (n := 1) S dX5_drawn_0 rfl rfl ?_
  refine ks_aload_n (n := 2) S dX5_drawn_1 rfl rfl ?_
  refine ks_getI (n := 5) (fi := 13) S dX5_drawn_2 rfl fl_X5_235 rfl rfl rfl ?_
  refine ks_ldc (n := 7) (x := 1664525) S dX5_drawn_5 rfl ct_X5_238 (by unfold iv; decide +kernel) ?_
  refine ks_imulW (n := 8) S dX5_drawn_7 rfl ?_
  refine ks_ldc (n := 10) (x := 1013904223) S dX5_drawn_8 rfl ct_X5_239 (by unfold iv; decide +kernel) ?_
  refine ks_iaddW (n := 11) S dX5_drawn_10 rfl ?_
  refine ks_putI (n := 14) (fi := 13) S dX5_drawn_11 rfl fw_X5_235 rfl rfl (Or.inl rfl) rfl ?_
  refine ks_aload_n (n := 15) S dX5_drawn_14 rfl rfl ?_
  rw [show wr (wr (σ 38 13 * 1664525) + 1013904223) = m_ns (σ 38 13) from rfl]
  refine ks_getI (n := 18) (fi := 13) S dX5_drawn_15 rfl fl_X5_235 rfl rfl rfl ?_
  rw [kq_up_s]
  refine ks_ldc (n := 20) (x := 2147483647) S dX5_drawn_18 rfl ct_X5_240 (by unfold iv; decide +kernel) ?_
  refine ks_iand (n := 21) S dX5_drawn_20 rfl ?_
  refine ks_sipush (n := 24) S dX5_drawn_21 rfl (by unfold iv; decide) ?_
  refine ks_idiv (n := 25) S dX5_drawn_24 rfl (by omega) ?_
  refine ks_iload_n (n := 26) S dX5_drawn_25 rfl rfl ?_
  refine ks_irem (n := 27) S dX5_drawn_26 rfl (by omega) ?_
  refine ks_iret S dX5_drawn_27 ?_
  exact rt_r
/-- one try of a day by lot: the seed, and the house -/
def m_l1 (a : RW) (s : Int × RW) : Int × RW := (m_ns (m_ns s.1), if m_of s.2 (m_dn (m_ns (m_ns s.1)) (a 0)) (aP s.2 (m_dn (m_ns s.1) (a 1)) 1) then m_open s.2 (m_dn (m_ns s.1) (a 1)) (m_dn (m_ns (m_ns s.1)) (a 0)) else s.2)
def m_it (a : RW) (z : Int) : Nat → Int × RW
  | 0 => (z, a)
  | n + 1 => m_l1 a (m_it a z n)
theorem m_it_s {a : RW} {z i : Int} (h : 0 ≤ i) : m_it a z (i + 1).toNat = m_l1 a (m_it a z i.toNat) := by
  obtain ⟨n, rfl⟩ := Int.eq_ofNat_of_zero_le h
  rfl
theorem m_it_ok {a : RW} (ok : OkR a) (h0 : 0 < a 0) (h1 : 0 < a 1) (hz : Zr a) (z : Int) : ∀ n : Nat, OkR (m_it a z n).2 ∧ Zr (m_it a z n).2 ∧ (m_it a z n).2 0 = a 0 ∧ (m_it a z n).2 1 = a 1 ∧ (m_it a z n).2 2 = a 2 := by
  have n9 := ok.1
  have n6 := ok.2.1
  intro n
  induction n with
  | zero => exact ⟨ok, hz, rfl, rfl, rfl⟩
  | succ n ih =>
    obtain ⟨i1, i2, i3, i4, i5⟩ := ih
    have b1 := m_dn_b (z := m_ns (m_it a z n).1) h1
    have b0 := m_dn_b (z := m_ns (m_ns (m_it a z n).1)) h0
    show OkR (m_l1 a (m_it a z n)).2 ∧ Zr (m_l1 a (m_it a z n)).2 ∧ (m_l1 a (m_it a z n)).2 0 = a 0 ∧ (m_l1 a (m_it a z n)).2 1 = a 1 ∧ (m_l1 a (m_it a z n)).2 2 = a 2
    unfold m_l1
    dsimp only
    split
    · rename_i hof
      have z := m_open_012 (a := (m_it a z n).2) (p := m_dn (m_ns (m_it a z n).1) (a 1)) (d := m_dn (m_ns (m_ns (m_it a z n).1)) (a 0)) b1.1 (by omega)
      exact ⟨m_open_ok i1 (by omega) (by omega) hof, m_open_z i2 (by omega) (by omega), by rw [z.1]; exact i3, by rw [z.2.1]; exact i4, by rw [z.2.2]; exact i5⟩
    · exact ⟨i1, i2, i3, i4, i5⟩
def m_dv (s : RW) (w : Int) : Int := if w = 0 then m_allH (m_hour s) else m_allM (m_hour s)
theorem m_dv_0 {s : RW} {w : Int} (h : w = 0) : m_dv s w = m_allH (m_hour s) := if_pos h
theorem m_dv_n {s : RW} {w : Int} (h : w ≠ 0) : m_dv s w = m_allM (m_hour s) := if_neg h
def m_lt (a : RW) (z w : Int) : Nat → Int × Int
  | 0 => (z, 0)
  | n + 1 => ((m_it a (m_lt a z w n).1 12).1, (m_lt a z w n).2 + m_dv (m_it a (m_lt a z w n).1 12).2 w)
theorem m_lt_s {a : RW} {z w i : Int} (h : 0 ≤ i) : m_lt a z w (i + 1).toNat = ((m_it a (m_lt a z w i.toNat).1 12).1, (m_lt a z w i.toNat).2 + m_dv (m_it a (m_lt a z w i.toNat).1 12).2 w) := by
  obtain ⟨n, rfl⟩ := Int.eq_ofNat_of_zero_le h
  rfl
theorem m_sum_b {f : Int → Int} {n : Nat} (h : ∀ d : Int, 0 ≤ d → d < n → 0 ≤ f d ∧ f d ≤ 99) : 0 ≤ m_sum f n ∧ m_sum f n ≤ 99 * n := by
  induction n with
  | zero => exact ⟨Int.le_refl 0, Int.le_refl 0⟩
  | succ n ih =>
    have i1 := ih (fun d h0 h1 => h d h0 (by omega))
    have i2 := h n (by omega) (by omega)
    show 0 ≤ m_sum f n + f n ∧ m_sum f n + f n ≤ 99 * ((n + 1 : Nat) : Int)
    omega
theorem m_allH_b {a : RW} (ok : OkR a) : 0 ≤ m_allH a ∧ m_allH a ≤ 891 := by
  have n9 := ok.1
  have := m_sum_b (f := fun d => aD a d 4) (n := (a 0).toNat) (fun d h0 h1 => (ok.2.2.2.1 d h0 (by omega)).2.2.2.2.2.1)
  unfold m_allH
  omega
theorem m_allM_b {a : RW} (ok : OkR a) : 0 ≤ m_allM a ∧ m_allM a ≤ 891 := by
  have n9 := ok.2.1
  have := m_sum_b (f := fun d => aP a d 2) (n := (a 1).toNat) (fun d h0 h1 => (ok.2.2.2.2 d h0 (by omega)).2.2)
  unfold m_allM
  omega
theorem m_dv_b {s : RW} {w : Int} (ok : OkR s) (h2 : s 2 ≤ 999) : 0 ≤ m_dv s w ∧ m_dv s w ≤ 891 := by
  have h := (m_hour_pass ok).ok ok (by omega) (by omega)
  unfold m_dv
  split
  · exact m_allH_b h
  · exact m_allM_b h
def A_lots (M : KS) (n z w : Int) : Int × KS := if n < 1 then (-4, rfM M (-4)) else if 20 < n then (-6, rfM M (-6)) else if ¬ (0 ≤ w ∧ w ≤ 1) then (-2, rfM M (-2)) else if M 39 1 < 1 ∨ M 39 0 < 1 then (-3, rfM M (-3)) else ((m_lt (M 39) z w n.toNat).2, M)
theorem ev_X4_dayByLot {z : Int} (hM : OkM M) (hC : RC σ M) (h0 : 0 < M 39 0) (h1 : 0 < M 39 1) : Ev l yX4_dayByLot cX4_dayByLot 6 (some .int) 3 66 [kr 0, ki z] σ (fun r τ => r = some (ki (m_it (M 39) z 12).1) ∧ FrT σ τ ∧ RepH τ 11 (m_hour (m_it (M 39) z 12).2)) := by
  have R := hC.1
  have ok := hM.1
  have n9 := ok.1
  have n6 := ok.2.1
  have h999 := hM.2.1
  refine ev_intro ym_X4_dayByLot.1 (Nat.le_of_ble_eq_true rfl) (fun hv hσ K S => ?_)
  have hv := hv
  show K 0 [some (kr 0), some (ki z), none, none, none, none] [] σ
  refine kq_use (kq_for (α := KS) 12 (fun i s => 0 ≤ i ∧ FrT σ s ∧ RepH s 11 (m_it (M 39) z i.toNat).2) (fun i s => K 15 [some (kr 0), some (ki z), some (ki (m_it (M 39) z i.toNat).1), some (ki i), none, none] [] s) ?_) (fun lp => ?_)
  · intro i ρ hi inv ih
    obtain ⟨i0, F, R1⟩ := inv
    obtain ⟨k1, k2, k3, k4, k5⟩ := m_it_ok ok h0 h1 hM.2.2.1 z i.toNat
    have q7 : ρ 11 7 = M 39 1 := by rw [R1.2.1]; exact k4
    have q0 : ρ 11 0 = M 39 0 := by rw [R1.1]; exact k3
    rw [m_it_s i0] at ih
    have hfin : i = 12 → (m_it (M 39) z i.toNat) = m_it (M 39) z 12 := fun e => by rw [e]; rfl
    obtain ⟨st, hst⟩ : ∃ q, q = m_it (M 39) z i.toNat := ⟨_, rfl⟩
    rw [← hst] at R1 k1 k2 k3 k4 k5 ih hfin ⊢
    have b1 := m_dn_b (z := m_ns st.1) h1
    have b0 := m_dn_b (z := m_ns (m_ns st.1)) h0
    have l1 : (m_l1 (M 39) st).1 = m_ns (m_ns st.1) := rfl
    refine ks_iload_n (n := 16) S dX4_dayByLot_15 rfl rfl ?_
    refine ks_bipush (n := 18) S dX4_dayByLot_16 rfl (by unfold iv; decide) ?_
    refine ks_icmp_ge (n := 21) (tgt := 88) S dX4_dayByLot_18 rfl rfl (fun h18 => ?_) (fun h18 => ?_)
    · skip
      have hp := m_hour_pass k1
      have hf := hfin (by omega)
      refine ks_aload_n (n := 89) S dX4_dayByLot_88 rfl rfl ?_
      refine ks_getr (n := 92) S dX4_dayByLot_89 rfl fl_X4_16 rfl rfl ?_
      refine ks_iconst (n := 93) S dX4_dayByLot_92 rfl (by unfold iv; decide) ?_
      refine ks_v1v (n := 96) S dX4_dayByLot_93 rfl ml_X4_136 ym_X0_pass (ev_X0_pass kq_H11 R1 k1 (by omega) hp) (by decide) kq_H11.o (Nat.le_of_ble_eq_true rfl) (fun τ93 q93 => ?_)
      obtain ⟨-, R3, F3⟩ := q93
      rw [hf] at R3
      refine ks_iload_n (n := 97) S dX4_dayByLot_96 rfl rfl ?_
      refine ks_iret S dX4_dayByLot_97 ?_
      exact ⟨by rw [hf], F.tr (FrT.ofH F3), R3⟩
    · skip
      refine ks_iload_n (n := 22) S dX4_dayByLot_21 rfl rfl ?_
      refine kf_s1i (n := 25) S dX4_dayByLot_22 rfl ml_X4_282 ym_X4_nextSeed (ev_X4_nextSeed) (by decide) (Nat.le_of_ble_eq_true rfl) ?_
      refine ks_istore_n (n := 26) S dX4_dayByLot_25 rfl rfl (L' := fun y => [some (kr 0), some (ki z), some (ki y), some (ki i), none, none]) (Nat.le_of_ble_eq_true rfl) (fun _ => rfl) (fun v2_25 hv25 => ?_)
      subst v2_25
      refine ks_iload_n (n := 27) S dX4_dayByLot_26 rfl rfl ?_
      refine ks_aload_n (n := 28) S dX4_dayByLot_27 rfl rfl ?_
      refine ks_getr (n := 31) S dX4_dayByLot_28 rfl fl_X4_16 rfl rfl ?_
      refine ks_getI (n := 34) (fi := 7) S dX4_dayByLot_31 rfl fl_X4_226 kq_H11.o rfl rfl ?_
      refine kf_s2i (n := 37) S dX4_dayByLot_34 rfl ml_X4_285 ym_X4_drawn (ev_X4_drawn (by omega)) (by decide) (Nat.le_of_ble_eq_true rfl) ?_
      rw [q7]
      refine ks_istore (n := 39) S dX4_dayByLot_37 rfl (L' := fun y => [some (kr 0), some (ki z), some (ki _), some (ki i), some (ki y), none]) (Nat.le_of_ble_eq_true rfl) (fun _ => rfl) (fun v4_37 hv37 => ?_)
      subst v4_37
      refine ks_iload_n (n := 40) S dX4_dayByLot_39 rfl rfl ?_
      refine kf_s1i (n := 43) S dX4_dayByLot_40 rfl ml_X4_282 ym_X4_nextSeed (ev_X4_nextSeed) (by decide) (Nat.le_of_ble_eq_true rfl) ?_
      refine ks_istore_n (n := 44) S dX4_dayByLot_43 rfl rfl (L' := fun y => [some (kr 0), some (ki z), some (ki y), some (ki i), some (ki _), none]) (Nat.le_of_ble_eq_true rfl) (fun _ => rfl) (fun v2_43 hv43 => ?_)
      subst v2_43
      refine ks_iload_n (n := 45) S dX4_dayByLot_44 rfl rfl ?_
      refine ks_aload_n (n := 46) S dX4_dayByLot_45 rfl rfl ?_
      refine ks_getr (n := 49) S dX4_dayByLot_46 rfl fl_X4_16 rfl rfl ?_
      refine ks_getI (n := 52) (fi := 0) S dX4_dayByLot_49 rfl fl_X4_161 kq_H11.o rfl rfl ?_
      refine kf_s2i (n := 55) S dX4_dayByLot_52 rfl ml_X4_285 ym_X4_drawn (ev_X4_drawn (by omega)) (by decide) (Nat.le_of_ble_eq_true rfl) ?_
      rw [q0]
      refine ks_istore (n := 57) S dX4_dayByLot_55 rfl (L' := fun y => [some (kr 0), some (ki z), some (ki _), some (ki i), some (ki _), some (ki y)]) (Nat.le_of_ble_eq_true rfl) (fun _ => rfl) (fun v5_55 hv55 => ?_)
      subst v5_55
      refine ks_aload_n (n := 58) S dX4_dayByLot_57 rfl rfl ?_
      refine ks_getr (n := 61) S dX4_dayByLot_58 rfl fl_X4_16 rfl rfl ?_
      refine ks_iload (n := 63) S dX4_dayByLot_61 rfl rfl ?_
      refine ks_iload (n := 65) S dX4_dayByLot_63 rfl rfl ?_
      refine kf_v2z (n := 68) S dX4_dayByLot_65 rfl ml_X4_114 ym_X0_canOpen (ev_X0_canOpen kq_H11 R1 k1 (by omega) (by omega)) (by decide) kq_H11.o (Nat.le_of_ble_eq_true rfl) ?_
      refine ks_if_eq (n := 71) (tgt := 82) S dX4_dayByLot_68 rfl rfl (fun h68 => ?_) (fun h68 => ?_)
      · skip
        simp only [bi_eq, bi_ne, Classical.not_not] at h68
        refine ks_iinc (n := 85) S dX4_dayByLot_82 rfl rfl (by omega) (L' := fun y => [some (kr 0), some (ki z), some (ki _), some (ki y), some (ki _), some (ki _)]) (fun _ => rfl) (fun v3_82 hv82 => ?_)
        subst v3_82
        refine ks_goto (n := 15) S dX4_dayByLot_85 rfl ?_
        refine ks_weak (L' := [some (kr 0), some (ki z), some (ki _), some (ki _), none, none]) S ((And.intro rfl (And.intro rfl (And.intro rfl (And.intro rfl True.intro))))) ?_
        rw [← l1]
        first | (refine ih _ (by omega) ⟨by omega, F.tr (FrT.ofH F3), ?_⟩; exact RepH.cast (if_pos h68) R3) | (refine ih _ (by omega) ⟨by omega, F, ?_⟩; exact RepH.cast (if_neg h68) R1)
      · skip
        simp only [bi_eq, bi_ne, Classical.not_not] at h68
        refine ks_aload_n (n := 72) S dX4_dayByLot_71 rfl rfl ?_
        refine ks_getr (n := 75) S dX4_dayByLot_72 rfl fl_X4_16 rfl rfl ?_
        refine ks_iload (n := 77) S dX4_dayByLot_75 rfl rfl ?_
        refine ks_iload (n := 79) S dX4_dayByLot_77 rfl rfl ?_
        refine ks_v2v (n := 82) S dX4_dayByLot_79 rfl ml_X4_118 ym_X0_open (ev_X0_open kq_H11 R1 k1 (by omega) (by omega) h68) (by decide) kq_H11.o (Nat.le_of_ble_eq_true rfl) (fun τ79 q79 => ?_)
        obtain ⟨-, R3, F3⟩ := q79
        refine ks_iinc (n := 85) S dX4_dayByLot_82 rfl rfl (by omega) (L' := fun y => [some (kr 0), some (ki z), some (ki _), some (ki y), some (ki _), some (ki _)]) (fun _ => rfl) (fun v3_82 hv82 => ?_)
        subst v3_82
        refine ks_goto (n := 15) S dX4_dayByLot_85 rfl ?_
        refine ks_weak (L' := [some (kr 0), some (ki z), some (ki _), some (ki _), none, none]) S ((And.intro rfl (And.intro rfl (And.intro rfl (And.intro rfl True.intro))))) ?_
        rw [← l1]
        first | (refine ih _ (by omega) ⟨by omega, F.tr (FrT.ofH F3), ?_⟩; exact RepH.cast (if_pos h68) R3) | (refine ih _ (by omega) ⟨by omega, F, ?_⟩; exact RepH.cast (if_neg h68) R1)
  refine ks_iload_n (n := 1) S dX4_dayByLot_0 rfl rfl ?_
  refine ks_istore_n (n := 2) S dX4_dayByLot_1 rfl rfl (L' := fun y => [some (kr 0), some (ki z), some (ki y), none, none, none]) (Nat.le_of_ble_eq_true rfl) (fun _ => rfl) (fun v2_1 hv1 => ?_)
  subst v2_1
  refine ks_aload_n (n := 3) S dX4_dayByLot_2 rfl rfl ?_
  refine ks_getr (n := 6) S dX4_dayByLot_3 rfl fl_X4_16 rfl rfl ?_
  refine ks_aload_n (n := 7) S dX4_dayByLot_6 rfl rfl ?_
  refine ks_getr (n := 10) S dX4_dayByLot_7 rfl fl_X4_10 rfl rfl ?_
  refine ks_v1v (n := 13) S dX4_dayByLot_10 rfl ml_X4_66 ym_X0_copyFrom (ev_X0_copyFrom kq_H11 kq_H1 (by decide) R ok) (by decide) kq_H11.o (Nat.le_of_ble_eq_true rfl) (fun τ10 q10 => ?_)
  obtain ⟨-, R1, F1⟩ := q10
  refine ks_iconst (n := 14) S dX4_dayByLot_13 rfl (by unfold iv; decide) ?_
  refine ks_istore_n (n := 15) S dX4_dayByLot_14 rfl rfl (L' := fun y => [some (kr 0), some (ki z), some (ki _), some (ki y), none, none]) (Nat.le_of_ble_eq_true rfl) (fun _ => rfl) (fun v3_14 hv14 => ?_)
  obtain rfl : v3_14 = 0 := by omega
  exact lp 0 _ (by omega) ⟨by omega, FrT.ofH F1, R1⟩
theorem pc_lots {n z w : Int} (hM : OkM M) (hC : RC σ M) : Ev l yX4_lots cX4_lots 8 (some .int) 4 91 [kr 0, ki n, ki z, ki w] σ (QC (A_lots M n z w) σ) := by
  have R := hC.1
  have ok := hM.1
  have n9 := ok.1
  have n6 := ok.2.1
  have h999 := hM.2.1
  have s0 : σ 1 0 = M 39 0 := R.1
  have s7 : σ 1 7 = M 39 1 := R.2.1
  refine ev_intro ym_X4_lots.1 (Nat.le_of_ble_eq_true rfl) (fun hv hσ K S => ?_)
  have hv := hv
  show K 0 [some (kr 0), some (ki n), some (ki z), some (ki w), none, none, none, none] [] σ
  refine kq_use (fun (hn : 1 ≤ n ∧ n ≤ 20) (hw : 0 ≤ w ∧ w ≤ 1) (h0 : 0 < M 39 0) (h1 : 0 < M 39 1) => kq_for (α := KS) n (fun i s => 0 ≤ i ∧ FrT σ s ∧ 0 ≤ (m_lt (M 39) z w i.toNat).2 ∧ (m_lt (M 39) z w i.toNat).2 ≤ 891 * i) (fun i s => K 75 [some (kr 0), some (ki n), some (ki z), some (ki w), some (ki 0), some (ki (m_lt (M 39) z w i.toNat).1), some (ki (m_lt (M 39) z w i.toNat).2), some (ki i)] [] s) ?_) (fun lp => ?_)
  · intro i ρ hi inv ih
    obtain ⟨i0, F, c1, c2⟩ := inv
    rw [m_lt_s i0] at ih
    obtain ⟨st, hst⟩ : ∃ q, q = m_lt (M 39) z w i.toNat := ⟨_, rfl⟩
    have hfin : i = n → st = m_lt (M 39) z w n.toNat := fun e => by rw [hst, e]
    rw [← hst] at c1 c2 ih ⊢
    obtain ⟨k1, k2, k3, k4, k5⟩ := m_it_ok ok h0 h1 hM.2.2.1 st.1 12
    obtain ⟨it, hit⟩ : ∃ q, q = m_it (M 39) st.1 12 := ⟨_, rfl⟩
    rw [← hit] at k1 k2 k3 k4 k5 ih
    have hdv := m_dv_b (w := w) k1 (by rw [k5]; exact h999)
    have okh := (m_hour_pass k1).ok k1 (by omega) (by omega)
    refine ks_iload (n := 77) S dX4_lots_75 rfl rfl ?_
    refine ks_iload_n (n := 78) S dX4_lots_77 rfl rfl ?_
    refine ks_icmp_ge (n := 81) (tgt := 121) S dX4_lots_78 rfl rfl (fun h78 => ?_) (fun h78 => ?_)
    · skip
      refine ks_iload (n := 123) S dX4_lots_121 rfl rfl ?_
      refine ks_iret S dX4_lots_123 ?_
      exact qc_t hC F (by unfold A_lots; rw [if_neg (by omega), if_neg (by omega), if_neg (by omega), if_neg (by omega), ← hfin (by omega)])
    · skip
      refine ks_aload_n (n := 82) S dX4_lots_81 rfl rfl ?_
      refine ks_iload (n := 84) S dX4_lots_82 rfl rfl ?_
      refine ks_v1i (n := 87) S dX4_lots_84 rfl ml_X4_276 ym_X4_dayByLot (ev_X4_dayByLot hM (hC.fr F) h0 h1) (by decide) rfl (Nat.le_of_ble_eq_true rfl) (fun r84 τ84 q84 => ?_)
      obtain ⟨w1, F2, R3⟩ := q84
      rw [← hit] at w1 R3
      have w1 := kq_si w1
      clear hit hst
      subst r84
      refine ks_istore (n := 89) S dX4_lots_87 rfl (L' := fun y => [some (kr 0), some (ki n), some (ki z), some (ki w), some (ki 0), some (ki y), some (ki (st.2)), some (ki i)]) (Nat.le_of_ble_eq_true rfl) (fun _ => rfl) (fun v5_87 hv87 => ?_)
      subst v5_87
      refine ks_iload (n := 91) S dX4_lots_89 rfl rfl ?_
      refine ks_iload_n (n := 92) S dX4_lots_91 rfl rfl ?_
      refine ks_if_ne (n := 95) (tgt := 105) S dX4_lots_92 rfl rfl (fun h92 => ?_) (fun h92 => ?_)
      · skip
        first | have edv := m_dv_n (s := it.2) h92 | have edv := m_dv_0 (s := it.2) h92
        refine ks_aload_n (n := 106) S dX4_lots_105 rfl rfl ?_
        refine ks_getr (n := 109) S dX4_lots_106 rfl fl_X4_16 rfl rfl ?_
        refine kf_v0i (n := 112) S dX4_lots_109 rfl ml_X4_279 ym_X0_allMood (ev_X0_allMood kq_H11 R3 okh) (by decide) kq_H11.o (Nat.le_of_ble_eq_true rfl) ?_
        rw [← edv]
        refine ks_iadd (n := 113) S dX4_lots_112 rfl (by omega) ?_
        refine ks_istore (n := 115) S dX4_lots_113 rfl (L' := fun y => [some (kr 0), some (ki n), some (ki z), some (ki w), some (ki 0), some (ki _), some (ki y), some (ki i)]) (Nat.le_of_ble_eq_true rfl) (fun _ => rfl) (fun v6_113 hv113 => ?_)
        subst v6_113
        refine ks_iinc (n := 118) S dX4_lots_115 rfl rfl (by omega) (L' := fun y => [some (kr 0), some (ki n), some (ki z), some (ki w), some (ki 0), some (ki _), some (ki _), some (ki y)]) (fun _ => rfl) (fun v7_115 hv115 => ?_)
        subst v7_115
        refine ks_goto (n := 75) S dX4_lots_118 rfl ?_
        refine ih _ (by omega) ⟨by omega, F.tr F2, ?_, ?_⟩
        · dsimp only; omega
        · dsimp only; omega
      · skip
        first | have edv := m_dv_n (s := it.2) h92 | have edv := m_dv_0 (s := it.2) h92
        refine ks_aload_n (n := 96) S dX4_lots_95 rfl rfl ?_
        refine ks_getr (n := 99) S dX4_lots_96 rfl fl_X4_16 rfl rfl ?_
        refine kf_v0i (n := 102) S dX4_lots_99 rfl ml_X4_139 ym_X0_allHeat (ev_X0_allHeat kq_H11 R3 okh) (by decide) kq_H11.o (Nat.le_of_ble_eq_true rfl) ?_
        refine ks_goto (n := 112) S dX4_lots_102 rfl ?_
        rw [← edv]
        refine ks_iadd (n := 113) S dX4_lots_112 rfl (by omega) ?_
        refine ks_istore (n := 115) S dX4_lots_113 rfl (L' := fun y => [some (kr 0), some (ki n), some (ki z), some (ki w), some (ki 0), some (ki _), some (ki y), some (ki i)]) (Nat.le_of_ble_eq_true rfl) (fun _ => rfl) (fun v6_113 hv113 => ?_)
        subst v6_113
        refine ks_iinc (n := 118) S dX4_lots_115 rfl rfl (by omega) (L' := fun y => [some (kr 0), some (ki n), some (ki z), some (ki w), some (ki 0), some (ki _), some (ki _), some (ki y)]) (fun _ => rfl) (fun v7_115 hv115 => ?_)
        subst v7_115
        refine ks_goto (n := 75) S dX4_lots_118 rfl ?_
        refine ih _ (by omega) ⟨by omega, F.tr F2, ?_, ?_⟩
        · dsimp only; omega
        · dsimp only; omega
  refine ks_iload_n (n := 1) S dX4_lots_0 rfl rfl ?_
  refine ks_iconst (n := 2) S dX4_lots_1 rfl (by unfold iv; decide) ?_
  refine ks_bipush (n := 4) S dX4_lots_2 rfl (by unfold iv; decide) ?_
  refine kf_s3i (n := 7) S dX4_lots_4 rfl ml_X4_122 ym_X4_outside (ev_X4_outside) (by decide) (Nat.le_of_ble_eq_true rfl) ?_
  rcases m_out n 1 20 with ⟨hc4, hw4⟩ | ⟨hc4, hd4, hw4⟩ | ⟨hc4, hd4, hw4⟩
  · skip
    rw [hw4]
    refine ks_istore (n := 9) S dX4_lots_7 rfl (L' := fun y => [some (kr 0), some (ki n), some (ki z), some (ki w), some (ki y), none, none, none]) (Nat.le_of_ble_eq_true rfl) (fun _ => rfl) (fun v4_7 hv7 => ?_)
    obtain rfl : v4_7 = -4 := by omega
    refine ks_iload (n := 11) S dX4_lots_9 rfl rfl ?_
    refine ks_if_ge (n := 14) (tgt := 21) S dX4_lots_11 rfl rfl (fun h11 => ?_) (fun h11 => ?_)
    · omega
    refine ks_aload_n (n := 15) S dX4_lots_14 rfl rfl ?_
    refine ks_iload (n := 17) S dX4_lots_15 rfl rfl ?_
    refine kf_v1i (n := 20) S dX4_lots_17 rfl ml_X4_51 ym_X4_refuse (ev_X4_refuse (by omega)) (by decide) rfl (Nat.le_of_ble_eq_true rfl) ?_
    refine ks_iret S dX4_lots_20 ?_
    exact qc_r hC (by omega) (by unfold A_lots; (repeat' split) <;> first | rfl | omega)
  · skip
    rw [hw4]
    refine ks_istore (n := 9) S dX4_lots_7 rfl (L' := fun y => [some (kr 0), some (ki n), some (ki z), some (ki w), some (ki y), none, none, none]) (Nat.le_of_ble_eq_true rfl) (fun _ => rfl) (fun v4_7 hv7 => ?_)
    obtain rfl : v4_7 = -6 := by omega
    refine ks_iload (n := 11) S dX4_lots_9 rfl rfl ?_
    refine ks_if_ge (n := 14) (tgt := 21) S dX4_lots_11 rfl rfl (fun h11 => ?_) (fun h11 => ?_)
    · omega
    refine ks_aload_n (n := 15) S dX4_lots_14 rfl rfl ?_
    refine ks_iload (n := 17) S dX4_lots_15 rfl rfl ?_
    refine kf_v1i (n := 20) S dX4_lots_17 rfl ml_X4_51 ym_X4_refuse (ev_X4_refuse (by omega)) (by decide) rfl (Nat.le_of_ble_eq_true rfl) ?_
    refine ks_iret S dX4_lots_20 ?_
    exact qc_r hC (by omega) (by unfold A_lots; (repeat' split) <;> first | rfl | omega)
  · skip
    rw [hw4]
    refine ks_istore (n := 9) S dX4_lots_7 rfl (L' := fun y => [some (kr 0), some (ki n), some (ki z), some (ki w), some (ki y), none, none, none]) (Nat.le_of_ble_eq_true rfl) (fun _ => rfl) (fun v4_7 hv7 => ?_)
    obtain rfl : v4_7 = 0 := by omega
    refine ks_iload (n := 11) S dX4_lots_9 rfl rfl ?_
    refine ks_if_ge (n := 14) (tgt := 21) S dX4_lots_11 rfl rfl (fun h11 => ?_) (fun h11 => ?_)
    rotate_left
    · omega
    refine ks_iload_n (n := 22) S dX4_lots_21 rfl rfl ?_
    refine ks_if_eq (n := 25) (tgt := 37) S dX4_lots_22 rfl rfl (fun h22 => ?_) (fun h22 => ?_)
    · skip
      refine ks_aload_n (n := 38) S dX4_lots_37 rfl rfl ?_
      refine ks_getr (n := 41) S dX4_lots_38 rfl fl_X4_10 rfl rfl ?_
      refine ks_getI (n := 44) (fi := 7) S dX4_lots_41 rfl fl_X4_226 kq_H1.o rfl rfl ?_
      refine ks_iconst (n := 45) S dX4_lots_44 rfl (by unfold iv; decide) ?_
      refine ks_icmp_lt (n := 48) (tgt := 59) S dX4_lots_45 rfl rfl (fun h45 => ?_) (fun h45 => ?_)
      · skip
        refine ks_aload_n (n := 60) S dX4_lots_59 rfl rfl ?_
        refine ks_bipush (n := 62) S dX4_lots_60 rfl (by unfold iv; decide) ?_
        refine kf_v1i (n := 65) S dX4_lots_62 rfl ml_X4_51 ym_X4_refuse (ev_X4_refuse (by omega)) (by decide) rfl (Nat.le_of_ble_eq_true rfl) ?_
        refine ks_iret S dX4_lots_65 ?_
        exact qc_r hC (by omega) (by unfold A_lots; (repeat' split) <;> first | rfl | omega)
      · skip
        refine ks_aload_n (n := 49) S dX4_lots_48 rfl rfl ?_
        refine ks_getr (n := 52) S dX4_lots_49 rfl fl_X4_10 rfl rfl ?_
        refine ks_getI (n := 55) (fi := 0) S dX4_lots_52 rfl fl_X4_161 kq_H1.o rfl rfl ?_
        refine ks_iconst (n := 56) S dX4_lots_55 rfl (by unfold iv; decide) ?_
        refine ks_icmp_ge (n := 59) (tgt := 66) S dX4_lots_56 rfl rfl (fun h56 => ?_) (fun h56 => ?_)
        · skip
          refine ks_iload_n (n := 67) S dX4_lots_66 rfl rfl ?_
          refine ks_istore (n := 69) S dX4_lots_67 rfl (L' := fun y => [some (kr 0), some (ki n), some (ki z), some (ki w), some (ki (0)), some (ki y), none, none]) (Nat.le_of_ble_eq_true rfl) (fun _ => rfl) (fun v5_67 hv67 => ?_)
          subst v5_67
          refine ks_iconst (n := 70) S dX4_lots_69 rfl (by unfold iv; decide) ?_
          refine ks_istore (n := 72) S dX4_lots_70 rfl (L' := fun y => [some (kr 0), some (ki n), some (ki z), some (ki w), some (ki (0)), some (ki _), some (ki y), none]) (Nat.le_of_ble_eq_true rfl) (fun _ => rfl) (fun v6_70 hv70 => ?_)
          obtain rfl : v6_70 = 0 := by omega
          refine ks_iconst (n := 73) S dX4_lots_72 rfl (by unfold iv; decide) ?_
          refine ks_istore (n := 75) S dX4_lots_73 rfl (L' := fun y => [some (kr 0), some (ki n), some (ki z), some (ki w), some (ki (0)), some (ki _), some (ki (0)), some (ki y)]) (Nat.le_of_ble_eq_true rfl) (fun _ => rfl) (fun v7_73 hv73 => ?_)
          obtain rfl : v7_73 = 0 := by omega
          exact lp (by omega) (by omega) (by omega) (by omega) 0 _ (by omega) ⟨by omega, FrT.rf, by show (0 : Int) ≤ 0; omega, by show (0 : Int) ≤ 891 * 0; omega⟩
        · skip
          refine ks_aload_n (n := 60) S dX4_lots_59 rfl rfl ?_
          refine ks_bipush (n := 62) S dX4_lots_60 rfl (by unfold iv; decide) ?_
          refine kf_v1i (n := 65) S dX4_lots_62 rfl ml_X4_51 ym_X4_refuse (ev_X4_refuse (by omega)) (by decide) rfl (Nat.le_of_ble_eq_true rfl) ?_
          refine ks_iret S dX4_lots_65 ?_
          exact qc_r hC (by omega) (by unfold A_lots; (repeat' split) <;> first | rfl | omega)
    · skip
      refine ks_iload_n (n := 26) S dX4_lots_25 rfl rfl ?_
      refine ks_iconst (n := 27) S dX4_lots_26 rfl (by unfold iv; decide) ?_
      refine ks_icmp_eq (n := 30) (tgt := 37) S dX4_lots_27 rfl rfl (fun h27 => ?_) (fun h27 => ?_)
      · skip
        refine ks_aload_n (n := 38) S dX4_lots_37 rfl rfl ?_
        refine ks_getr (n := 41) S dX4_lots_38 rfl fl_X4_10 rfl rfl ?_
        refine ks_getI (n := 44) (fi := 7) S dX4_lots_41 rfl fl_X4_226 kq_H1.o rfl rfl ?_
        refine ks_iconst (n := 45) S dX4_lots_44 rfl (by unfold iv; decide) ?_
        refine ks_icmp_lt (n := 48) (tgt := 59) S dX4_lots_45 rfl rfl (fun h45 => ?_) (fun h45 => ?_)
        · skip
          refine ks_aload_n (n := 60) S dX4_lots_59 rfl rfl ?_
          refine ks_bipush (n := 62) S dX4_lots_60 rfl (by unfold iv; decide) ?_
          refine kf_v1i (n := 65) S dX4_lots_62 rfl ml_X4_51 ym_X4_refuse (ev_X4_refuse (by omega)) (by decide) rfl (Nat.le_of_ble_eq_true rfl) ?_
          refine ks_iret S dX4_lots_65 ?_
          exact qc_r hC (by omega) (by unfold A_lots; (repeat' split) <;> first | rfl | omega)
        · skip
          refine ks_aload_n (n := 49) S dX4_lots_48 rfl rfl ?_
          refine ks_getr (n := 52) S dX4_lots_49 rfl fl_X4_10 rfl rfl ?_
          refine ks_getI (n := 55) (fi := 0) S dX4_lots_52 rfl fl_X4_161 kq_H1.o rfl rfl ?_
          refine ks_iconst (n := 56) S dX4_lots_55 rfl (by unfold iv; decide) ?_
          refine ks_icmp_ge (n := 59) (tgt := 66) S dX4_lots_56 rfl rfl (fun h56 => ?_) (fun h56 => ?_)
          · skip
            refine ks_iload_n (n := 67) S dX4_lots_66 rfl rfl ?_
            refine ks_istore (n := 69) S dX4_lots_67 rfl (L' := fun y => [some (kr 0), some (ki n), some (ki z), some (ki w), some (ki (0)), some (ki y), none, none]) (Nat.le_of_ble_eq_true rfl) (fun _ => rfl) (fun v5_67 hv67 => ?_)
            subst v5_67
            refine ks_iconst (n := 70) S dX4_lots_69 rfl (by unfold iv; decide) ?_
            refine ks_istore (n := 72) S dX4_lots_70 rfl (L' := fun y => [some (kr 0), some (ki n), some (ki z), some (ki w), some (ki (0)), some (ki _), some (ki y), none]) (Nat.le_of_ble_eq_true rfl) (fun _ => rfl) (fun v6_70 hv70 => ?_)
            obtain rfl : v6_70 = 0 := by omega
            refine ks_iconst (n := 73) S dX4_lots_72 rfl (by unfold iv; decide) ?_
            refine ks_istore (n := 75) S dX4_lots_73 rfl (L' := fun y => [some (kr 0), some (ki n), some (ki z), some (ki w), some (ki (0)), some (ki _), some (ki (0)), some (ki y)]) (Nat.le_of_ble_eq_true rfl) (fun _ => rfl) (fun v7_73 hv73 => ?_)
            obtain rfl : v7_73 = 0 := by omega
            exact lp (by omega) (by omega) (by omega) (by omega) 0 _ (by omega) ⟨by omega, FrT.rf, by show (0 : Int) ≤ 0; omega, by show (0 : Int) ≤ 891 * 0; omega⟩
          · skip
            refine ks_aload_n (n := 60) S dX4_lots_59 rfl rfl ?_
            refine ks_bipush (n := 62) S dX4_lots_60 rfl (by unfold iv; decide) ?_
            refine kf_v1i (n := 65) S dX4_lots_62 rfl ml_X4_51 ym_X4_refuse (ev_X4_refuse (by omega)) (by decide) rfl (Nat.le_of_ble_eq_true rfl) ?_
            refine ks_iret S dX4_lots_65 ?_
            exact qc_r hC (by omega) (by unfold A_lots; (repeat' split) <;> first | rfl | omega)
      · skip
        refine ks_aload_n (n := 31) S dX4_lots_30 rfl rfl ?_
        refine ks_bipush (n := 33) S dX4_lots_31 rfl (by unfold iv; decide) ?_
        refine kf_v1i (n := 36) S dX4_lots_33 rfl ml_X4_51 ym_X4_refuse (ev_X4_refuse (by omega)) (by decide) rfl (Nat.le_of_ble_eq_true rfl) ?_
        refine ks_iret S dX4_lots_36 ?_
        exact qc_r hC (by omega) (by unfold A_lots; (repeat' split) <;> first | rfl | omega)
theorem pr_lots {n z w : Int} (hM : OkM M) (hR : RR σ M) : Ev l yX5_lots cX5_lots 9 (some .int) 3 66 [kr 38, ki n, ki z, ki w] σ (QR (A_lots M n z w) σ) := by
  have e39 : σ 39 = M 39 := hR.1
  have ok := hM.1
  have n9 := ok.1
  have n6 := ok.2.1
  have z39 := hM.2.2.1
  have h999 := hM.2.1
  have s0 : σ 39 0 = M 39 0 := by rw [e39]
  have s1 : σ 39 1 = M 39 1 := by rw [e39]
  refine ev_intro ym_X5_lots.1 (Nat.le_of_ble_eq_true rfl) (fun hv hσ K S => ?_)
  have hv := hv
  show K 0 [some (kr 38), some (ki n), some (ki z), some (ki w), none, none, none, none, none] [] σ
  refine kq_use (fun (hn : 1 ≤ n ∧ n ≤ 20) (hw : 0 ≤ w ∧ w ≤ 1) (h0 : 0 < M 39 0) (h1 : 0 < M 39 1) => kq_for (α := KS) n (fun i s => 0 ≤ i ∧ FrQ σ s ∧ s 38 13 = (m_lt (M 39) z w i.toNat).1 ∧ 0 ≤ (m_lt (M 39) z w i.toNat).2 ∧ (m_lt (M 39) z w i.toNat).2 ≤ 891 * i) (fun i s => K 77 [some (kr 38), some (ki n), some (ki z), some (ki w), some (ki (m_lt (M 39) z w i.toNat).2), some (ki i), none, none, none] [] s) ?_) (fun lp => ?_)
  · intro i ρ hi inv ih
    obtain ⟨i0, F, sd, c1, c2⟩ := inv
    rw [m_lt_s i0] at ih
    obtain ⟨st, hst⟩ : ∃ q, q = m_lt (M 39) z w i.toNat := ⟨_, rfl⟩
    have hfin : i = n → st = m_lt (M 39) z w n.toNat := fun e => by rw [hst, e]
    rw [← hst] at sd c1 c2 ih ⊢
    obtain ⟨k1, k2, k3, k4, k5⟩ := m_it_ok ok h0 h1 hM.2.2.1 st.1 12
    obtain ⟨it, hit⟩ : ∃ q, q = m_it (M 39) st.1 12 := ⟨_, rfl⟩
    rw [← hit] at k1 k2 k3 k4 k5 ih
    have hdv := m_dv_b (w := w) k1 (by rw [k5]; exact h999)
    have okh := (m_hour_pass k1).ok k1 (by omega) (by omega)
    have R2 := hR.fr F
    refine kq_use (fun (hlt : i < n) => kq_for (α := KS) 12 (fun j s => 0 ≤ j ∧ FrQ σ s ∧ s 38 13 = (m_it (M 39) st.1 j.toNat).1 ∧ s 40 = (m_it (M 39) st.1 j.toNat).2) (fun j s => K 97 [some (kr 38), some (ki n), some (ki z), some (ki w), some (ki st.2), some (ki i), some (ki j), none, none] [] s) ?_) (fun lp2 => ?_)
    · intro j τ hj inv2 ih2
      obtain ⟨j0, G, sd2, s40⟩ := inv2
      obtain ⟨l1, l2, l3, l4, l5⟩ := m_it_ok ok h0 h1 hM.2.2.1 st.1 j.toNat
      rw [m_it_s j0] at ih2
      have hfin2 : j = 12 → (m_it (M 39) st.1 j.toNat) = it := fun e => by rw [hit, e]; rfl
      clear hit
      obtain ⟨t, htt⟩ : ∃ q, q = m_it (M 39) st.1 j.toNat := ⟨_, rfl⟩
      rw [← htt] at sd2 s40 l1 l2 l3 l4 l5 ih2 hfin2
      have R3 := hR.fr G
      have r39 : τ 39 = M 39 := R3.1
      have r0 : τ 39 0 = M 39 0 := by rw [r39]
      have r1 : τ 39 1 = M 39 1 := by rw [r39]
      have b1 := m_dn_b (z := m_ns t.1) h1
      have b0 := m_dn_b (z := m_ns (m_ns t.1)) h0
      refine ks_iload (n := 99) S dX5_lots_97 rfl rfl ?_
      refine ks_bipush (n := 101) S dX5_lots_99 rfl (by unfold iv; decide) ?_
      refine ks_icmp_ge (n := 104) (tgt := 168) S dX5_lots_101 rfl rfl (fun h101 => ?_) (fun h101 => ?_)
      · skip
        have hf := hfin2 (by omega)
        rw [hf] at s40 sd2
        refine ks_aload_n (n := 169) S dX5_lots_168 rfl rfl ?_
        refine ks_getr (n := 172) S dX5_lots_169 rfl fl_X5_13 rfl rfl ?_
        refine kf_s1v (n := 175) S dX5_lots_172 rfl ml_X5_83 ym_X5_hour (ev_X5_hour rfl (by rw [s40]; exact k1) (by rw [s40, k5]; omega)) (by decide) (Nat.le_of_ble_eq_true rfl) ?_
        rw [s40]
        have G3 : FrQ σ (sr τ 40 (m_hour it.2)) := G.tr (FrQ.m (m_hour_z k1 k2))
        have t13 : sr τ 40 (m_hour it.2) 38 13 = it.1 := by rw [sr_n (by decide)]; exact sd2
        refine ks_iload (n := 177) S dX5_lots_175 rfl rfl ?_
        refine ks_iload_n (n := 178) S dX5_lots_177 rfl rfl ?_
        refine ks_if_ne (n := 181) (tgt := 191) S dX5_lots_178 rfl rfl (fun h178 => ?_) (fun h178 => ?_)
        · skip
          first | have edv := m_dv_n (s := it.2) h178 | have edv := m_dv_0 (s := it.2) h178
          refine ks_aload_n (n := 192) S dX5_lots_191 rfl rfl ?_
          refine ks_getr (n := 195) S dX5_lots_192 rfl fl_X5_13 rfl rfl ?_
          refine kf_s1i (n := 198) S dX5_lots_195 rfl ml_X5_244 ym_X5_allMoods (ev_X5_allMoods rfl (by rw [sr_r]; exact okh)) (by decide) (Nat.le_of_ble_eq_true rfl) ?_
          rw [sr_r]
          rw [← edv]
          refine ks_iadd (n := 199) S dX5_lots_198 rfl (by omega) ?_
          refine ks_istore (n := 201) S dX5_lots_199 rfl (L' := fun y => [some (kr 38), some (ki n), some (ki z), some (ki w), some (ki y), some (ki i), some (ki j), none, none]) (Nat.le_of_ble_eq_true rfl) (fun _ => rfl) (fun v4_199 hv199 => ?_)
          subst v4_199
          refine ks_iinc (n := 204) S dX5_lots_201 rfl rfl (by omega) (L' := fun y => [some (kr 38), some (ki n), some (ki z), some (ki w), some (ki _), some (ki y), some (ki j), none, none]) (fun _ => rfl) (fun v5_201 hv201 => ?_)
          subst v5_201
          refine ks_goto (n := 77) S dX5_lots_204 rfl ?_
          refine ks_weak (L' := [some (kr 38), some (ki n), some (ki z), some (ki w), some (ki _), some (ki _), none, none, none]) S ((And.intro rfl (And.intro rfl (And.intro rfl (And.intro rfl (And.intro rfl (And.intro rfl True.intro))))))) ?_
          refine ih _ hlt ⟨by omega, G3, t13, ?_, ?_⟩
          · dsimp only; omega
          · dsimp only; omega
        · skip
          first | have edv := m_dv_n (s := it.2) h178 | have edv := m_dv_0 (s := it.2) h178
          refine ks_aload_n (n := 182) S dX5_lots_181 rfl rfl ?_
          refine ks_getr (n := 185) S dX5_lots_182 rfl fl_X5_13 rfl rfl ?_
          refine kf_s1i (n := 188) S dX5_lots_185 rfl ml_X5_148 ym_X5_allHeat (ev_X5_allHeat rfl (by rw [sr_r]; exact okh)) (by decide) (Nat.le_of_ble_eq_true rfl) ?_
          rw [sr_r]
          refine ks_goto (n := 198) S dX5_lots_188 rfl ?_
          rw [← edv]
          refine ks_iadd (n := 199) S dX5_lots_198 rfl (by omega) ?_
          refine ks_istore (n := 201) S dX5_lots_199 rfl (L' := fun y => [some (kr 38), some (ki n), some (ki z), some (ki w), some (ki y), some (ki i), some (ki j), none, none]) (Nat.le_of_ble_eq_true rfl) (fun _ => rfl) (fun v4_199 hv199 => ?_)
          subst v4_199
          refine ks_iinc (n := 204) S dX5_lots_201 rfl rfl (by omega) (L' := fun y => [some (kr 38), some (ki n), some (ki z), some (ki w), some (ki _), some (ki y), some (ki j), none, none]) (fun _ => rfl) (fun v5_201 hv201 => ?_)
          subst v5_201
          refine ks_goto (n := 77) S dX5_lots_204 rfl ?_
          refine ks_weak (L' := [some (kr 38), some (ki n), some (ki z), some (ki w), some (ki _), some (ki _), none, none, none]) S ((And.intro rfl (And.intro rfl (And.intro rfl (And.intro rfl (And.intro rfl (And.intro rfl True.intro))))))) ?_
          refine ih _ hlt ⟨by omega, G3, t13, ?_, ?_⟩
          · dsimp only; omega
          · dsimp only; omega
      · skip
        refine ks_aload_n (n := 105) S dX5_lots_104 rfl rfl ?_
        refine ks_aload_n (n := 106) S dX5_lots_105 rfl rfl ?_
        refine ks_getr (n := 109) S dX5_lots_106 rfl fl_X5_9 rfl rfl ?_
        refine ks_iconst (n := 110) S dX5_lots_109 rfl (by unfold iv; decide) ?_
        refine ks_iaload (n := 111) S dX5_lots_110 rfl rfl (by omega) ?_
        refine kf_v1i (n := 114) S dX5_lots_111 rfl ml_X5_241 ym_X5_drawn (ev_X5_drawn (by omega)) (by decide) rfl (Nat.le_of_ble_eq_true rfl) ?_
        rw [sd2, r1]
        obtain ⟨τ1, hτ1⟩ : ∃ q, q = kq_up τ 38 13 (m_ns t.1) := ⟨_, rfl⟩
        have G1 : FrQ σ τ1 := by rw [hτ1]; exact G.tr (FrQ.fld R3.2.2.2.2.2.2.2.2.1 (by omega))
        have x39 : τ1 39 0 = M 39 0 := by rw [(hR.fr G1).1]
        have x13 : τ1 38 13 = m_ns t.1 := by rw [hτ1, kq_up_s]
        have x40 : τ1 40 = t.2 := by rw [hτ1, show kq_up τ 38 13 (m_ns t.1) 40 = τ 40 from funext fun q => kq_up_c (by decide)]; exact s40
        rw [← hτ1]
        refine ks_istore (n := 116) S dX5_lots_114 rfl (L' := fun y => [some (kr 38), some (ki n), some (ki z), some (ki w), some (ki (st.2)), some (ki i), some (ki j), some (ki y), none]) (Nat.le_of_ble_eq_true rfl) (fun _ => rfl) (fun v7_114 hv114 => ?_)
        subst v7_114
        refine ks_aload_n (n := 117) S dX5_lots_116 rfl rfl ?_
        refine ks_aload_n (n := 118) S dX5_lots_117 rfl rfl ?_
        refine ks_getr (n := 121) S dX5_lots_118 rfl fl_X5_9 rfl rfl ?_
        refine ks_iconst (n := 122) S dX5_lots_121 rfl (by unfold iv; decide) ?_
        refine ks_iaload (n := 123) S dX5_lots_122 rfl rfl (by omega) ?_
        refine kf_v1i (n := 126) S dX5_lots_123 rfl ml_X5_241 ym_X5_drawn (ev_X5_drawn (by omega)) (by decide) rfl (Nat.le_of_ble_eq_true rfl) ?_
        rw [x13, x39]
        obtain ⟨τ2, hτ2⟩ : ∃ q, q = kq_up τ1 38 13 (m_ns (m_ns t.1)) := ⟨_, rfl⟩
        have G2 : FrQ σ τ2 := by rw [hτ2]; exact G1.tr (FrQ.fld (hR.fr G1).2.2.2.2.2.2.2.2.1 (by omega))
        have y13 : τ2 38 13 = m_ns (m_ns t.1) := by rw [hτ2, kq_up_s]
        have y40 : τ2 40 = t.2 := by rw [hτ2, show kq_up τ1 38 13 (m_ns (m_ns t.1)) 40 = τ1 40 from funext fun q => kq_up_c (by decide)]; exact x40
        rw [← hτ2]
        have eP : τ2 40 (57 + 3 * m_dn (m_ns t.1) (M 39 1) + 1) = aP t.2 (m_dn (m_ns t.1) (M 39 1)) 1 := by rw [y40]; rfl
        refine ks_istore (n := 128) S dX5_lots_126 rfl (L' := fun y => [some (kr 38), some (ki n), some (ki z), some (ki w), some (ki (st.2)), some (ki i), some (ki j), some (ki _), some (ki y)]) (Nat.le_of_ble_eq_true rfl) (fun _ => rfl) (fun v8_126 hv126 => ?_)
        subst v8_126
        refine ks_aload_n (n := 129) S dX5_lots_128 rfl rfl ?_
        refine ks_getr (n := 132) S dX5_lots_129 rfl fl_X5_13 rfl rfl ?_
        refine ks_iload (n := 134) S dX5_lots_132 rfl rfl ?_
        refine ks_aload_n (n := 135) S dX5_lots_134 rfl rfl ?_
        refine ks_getr (n := 138) S dX5_lots_135 rfl fl_X5_13 rfl rfl ?_
        refine ks_iload (n := 140) S dX5_lots_138 rfl rfl ?_
        refine ks_iconst (n := 141) S dX5_lots_140 rfl (by unfold iv; decide) ?_
        refine kf_s2i (n := 144) S dX5_lots_141 rfl ml_X5_55 ym_X5_ofP (ev_X5_ofP (by omega) (by omega)) (by decide) (Nat.le_of_ble_eq_true rfl) ?_
        refine ks_iaload (n := 145) S dX5_lots_144 rfl rfl (by omega) ?_
        refine kf_s3z (n := 148) S dX5_lots_145 rfl ml_X5_123 ym_X5_isOf (ev_X5_isOf rfl (by omega)) (by decide) (Nat.le_of_ble_eq_true rfl) ?_
        rw [y40, show t.2 (57 + 3 * m_dn (m_ns t.1) (M 39 1) + 1) = aP t.2 (m_dn (m_ns t.1) (M 39 1)) 1 from rfl]
        refine ks_if_eq (n := 151) (tgt := 162) S dX5_lots_148 rfl rfl (fun h148 => ?_) (fun h148 => ?_)
        · skip
          simp only [bi_eq, bi_ne, Classical.not_not] at h148
          refine ks_iinc (n := 165) S dX5_lots_162 rfl rfl (by omega) (L' := fun y => [some (kr 38), some (ki n), some (ki z), some (ki w), some (ki (st.2)), some (ki i), some (ki y), some (ki _), some (ki _)]) (fun _ => rfl) (fun v6_162 hv162 => ?_)
          subst v6_162
          refine ks_goto (n := 97) S dX5_lots_165 rfl ?_
          refine ks_weak (L' := [some (kr 38), some (ki n), some (ki z), some (ki w), some (ki (st.2)), some (ki i), some (ki _), none, none]) S ((And.intro rfl (And.intro rfl (And.intro rfl (And.intro rfl (And.intro rfl (And.intro rfl (And.intro rfl True.intro)))))))) ?_
          first | (refine ih2 _ (by omega) ⟨by omega, G2, y13, ?_⟩; exact y40.trans (if_neg h148).symm) | exact ih2 _ (by omega) ⟨by omega, G2.tr (FrQ.m (m_open_z l2 (by omega) (by omega))), by rw [sr_n (by decide)]; exact y13, by rw [sr_r]; exact (if_pos h148).symm⟩
        · skip
          simp only [bi_eq, bi_ne, Classical.not_not] at h148
          refine ks_aload_n (n := 152) S dX5_lots_151 rfl rfl ?_
          refine ks_getr (n := 155) S dX5_lots_152 rfl fl_X5_13 rfl rfl ?_
          refine ks_iload (n := 157) S dX5_lots_155 rfl rfl ?_
          refine ks_iload (n := 159) S dX5_lots_157 rfl rfl ?_
          refine kf_s3v (n := 162) S dX5_lots_159 rfl ml_X5_127 ym_X5_opensIn (ev_X5_opensIn rfl (by rw [y40]; exact l1) (by rw [y40]; omega) (by rw [y40]; omega)) (by decide) (Nat.le_of_ble_eq_true rfl) ?_
          rw [y40]
          refine ks_iinc (n := 165) S dX5_lots_162 rfl rfl (by omega) (L' := fun y => [some (kr 38), some (ki n), some (ki z), some (ki w), some (ki (st.2)), some (ki i), some (ki y), some (ki _), some (ki _)]) (fun _ => rfl) (fun v6_162 hv162 => ?_)
          subst v6_162
          refine ks_goto (n := 97) S dX5_lots_165 rfl ?_
          refine ks_weak (L' := [some (kr 38), some (ki n), some (ki z), some (ki w), some (ki (st.2)), some (ki i), some (ki _), none, none]) S ((And.intro rfl (And.intro rfl (And.intro rfl (And.intro rfl (And.intro rfl (And.intro rfl (And.intro rfl True.intro)))))))) ?_
          first | (refine ih2 _ (by omega) ⟨by omega, G2, y13, ?_⟩; exact y40.trans (if_neg h148).symm) | exact ih2 _ (by omega) ⟨by omega, G2.tr (FrQ.m (m_open_z l2 (by omega) (by omega))), by rw [sr_n (by decide)]; exact y13, by rw [sr_r]; exact (if_pos h148).symm⟩
    refine ks_iload (n := 79) S dX5_lots_77 rfl rfl ?_
    refine ks_iload_n (n := 80) S dX5_lots_79 rfl rfl ?_
    refine ks_icmp_ge (n := 83) (tgt := 207) S dX5_lots_80 rfl rfl (fun h80 => ?_) (fun h80 => ?_)
    · skip
      refine ks_iload (n := 209) S dX5_lots_207 rfl rfl ?_
      refine ks_iret S dX5_lots_209 ?_
      exact qr_t hR F (by unfold A_lots; rw [if_neg (by omega), if_neg (by omega), if_neg (by omega), if_neg (by omega), ← hfin (by omega)])
    · skip
      refine ks_aload_n (n := 84) S dX5_lots_83 rfl rfl ?_
      refine ks_getr (n := 87) S dX5_lots_84 rfl fl_X5_9 rfl rfl ?_
      refine ks_aload_n (n := 88) S dX5_lots_87 rfl rfl ?_
      refine ks_getr (n := 91) S dX5_lots_88 rfl fl_X5_13 rfl rfl ?_
      refine kf_s2v (n := 94) S dX5_lots_91 rfl ml_X5_137 ym_X5_copies (ev_X5_copies rfl rfl (by decide) (by rw [R2.1]; exact z39) R2.2.2.2.2.2.2.2.2.1) (by decide) (Nat.le_of_ble_eq_true rfl) ?_
      rw [R2.1]
      refine ks_iconst (n := 95) S dX5_lots_94 rfl (by unfold iv; decide) ?_
      refine ks_istore (n := 97) S dX5_lots_95 rfl (L' := fun y => [some (kr 38), some (ki n), some (ki z), some (ki w), some (ki (st.2)), some (ki i), some (ki y), none, none]) (Nat.le_of_ble_eq_true rfl) (fun _ => rfl) (fun v6_95 hv95 => ?_)
      obtain rfl : v6_95 = 0 := by omega
      exact lp2 (by omega) 0 _ (by omega) ⟨by omega, F.tr (FrQ.m z39), by rw [sr_n (by decide)]; exact sd, by rw [sr_r]; rfl⟩
  refine ks_iload_n (n := 1) S dX5_lots_0 rfl rfl ?_
  refine ks_iconst (n := 2) S dX5_lots_1 rfl (by unfold iv; decide) ?_
  refine ks_icmp_ge (n := 5) (tgt := 12) S dX5_lots_2 rfl rfl (fun h2 => ?_) (fun h2 => ?_)
  · skip
    refine ks_iload_n (n := 13) S dX5_lots_12 rfl rfl ?_
    refine ks_bipush (n := 15) S dX5_lots_13 rfl (by unfold iv; decide) ?_
    refine ks_icmp_le (n := 18) (tgt := 25) S dX5_lots_15 rfl rfl (fun h15 => ?_) (fun h15 => ?_)
    · skip
      refine ks_iload_n (n := 26) S dX5_lots_25 rfl rfl ?_
      refine ks_iconst (n := 27) S dX5_lots_26 rfl (by unfold iv; decide) ?_
      refine ks_iconst (n := 28) S dX5_lots_27 rfl (by unfold iv; decide) ?_
      refine kf_s3z (n := 31) S dX5_lots_28 rfl ml_X5_44 ym_X5_isIn (ev_X5_isIn) (by decide) (Nat.le_of_ble_eq_true rfl) ?_
      refine ks_if_ne (n := 34) (tgt := 41) S dX5_lots_31 rfl rfl (fun h31 => ?_) (fun h31 => ?_)
      · skip
        simp only [bi_eq, bi_ne, Classical.not_not] at h31
        refine ks_aload_n (n := 42) S dX5_lots_41 rfl rfl ?_
        refine ks_getr (n := 45) S dX5_lots_42 rfl fl_X5_9 rfl rfl ?_
        refine ks_iconst (n := 46) S dX5_lots_45 rfl (by unfold iv; decide) ?_
        refine ks_iaload (n := 47) S dX5_lots_46 rfl rfl (by omega) ?_
        refine ks_if_eq (n := 50) (tgt := 59) S dX5_lots_47 rfl rfl (fun h47 => ?_) (fun h47 => ?_)
        · skip
          refine ks_aload_n (n := 60) S dX5_lots_59 rfl rfl ?_
          refine ks_bipush (n := 62) S dX5_lots_60 rfl (by unfold iv; decide) ?_
          refine kf_v1i (n := 65) S dX5_lots_62 rfl ml_X5_38 ym_X5_no (ev_X5_no (by omega)) (by decide) rfl (Nat.le_of_ble_eq_true rfl) ?_
          refine ks_iret S dX5_lots_65 ?_
          exact qr_r hR (by unfold A_lots; (repeat' split) <;> first | rfl | omega)
        · skip
          refine ks_aload_n (n := 51) S dX5_lots_50 rfl rfl ?_
          refine ks_getr (n := 54) S dX5_lots_51 rfl fl_X5_9 rfl rfl ?_
          refine ks_iconst (n := 55) S dX5_lots_54 rfl (by unfold iv; decide) ?_
          refine ks_iaload (n := 56) S dX5_lots_55 rfl rfl (by omega) ?_
          refine ks_if_ne (n := 59) (tgt := 66) S dX5_lots_56 rfl rfl (fun h56 => ?_) (fun h56 => ?_)
          · skip
            refine ks_aload_n (n := 67) S dX5_lots_66 rfl rfl ?_
            refine ks_iload_n (n := 68) S dX5_lots_67 rfl rfl ?_
            refine ks_putI (n := 71) (fi := 13) S dX5_lots_68 rfl fw_X5_235 rfl rfl (Or.inl rfl) rfl ?_
            refine ks_iconst (n := 72) S dX5_lots_71 rfl (by unfold iv; decide) ?_
            refine ks_istore (n := 74) S dX5_lots_72 rfl (L' := fun y => [some (kr 38), some (ki n), some (ki z), some (ki w), some (ki y), none, none, none, none]) (Nat.le_of_ble_eq_true rfl) (fun _ => rfl) (fun v4_72 hv72 => ?_)
            obtain rfl : v4_72 = 0 := by omega
            refine ks_iconst (n := 75) S dX5_lots_74 rfl (by unfold iv; decide) ?_
            refine ks_istore (n := 77) S dX5_lots_75 rfl (L' := fun y => [some (kr 38), some (ki n), some (ki z), some (ki w), some (ki (0)), some (ki y), none, none, none]) (Nat.le_of_ble_eq_true rfl) (fun _ => rfl) (fun v5_75 hv75 => ?_)
            obtain rfl : v5_75 = 0 := by omega
            exact lp (by omega) (by omega) (by omega) (by omega) 0 _ (by omega) ⟨by omega, FrQ.fld hR.2.2.2.2.2.2.2.2.1 (by omega), by rw [kq_up_s]; rfl, by show (0 : Int) ≤ 0; omega, by show (0 : Int) ≤ 891 * 0; omega⟩
          · skip
            refine ks_aload_n (n := 60) S dX5_lots_59 rfl rfl ?_
            refine ks_bipush (n := 62) S dX5_lots_60 rfl (by unfold iv; decide) ?_
            refine kf_v1i (n := 65) S dX5_lots_62 rfl ml_X5_38 ym_X5_no (ev_X5_no (by omega)) (by decide) rfl (Nat.le_of_ble_eq_true rfl) ?_
            refine ks_iret S dX5_lots_65 ?_
            exact qr_r hR (by unfold A_lots; (repeat' split) <;> first | rfl | omega)
      · skip
        simp only [bi_eq, bi_ne, Classical.not_not] at h31
        refine ks_aload_n (n := 35) S dX5_lots_34 rfl rfl ?_
        refine ks_bipush (n := 37) S dX5_lots_35 rfl (by unfold iv; decide) ?_
        refine kf_v1i (n := 40) S dX5_lots_37 rfl ml_X5_38 ym_X5_no (ev_X5_no (by omega)) (by decide) rfl (Nat.le_of_ble_eq_true rfl) ?_
        refine ks_iret S dX5_lots_40 ?_
        exact qr_r hR (by unfold A_lots; (repeat' split) <;> first | rfl | omega)
    · skip
      refine ks_aload_n (n := 19) S dX5_lots_18 rfl rfl ?_
      refine ks_bipush (n := 21) S dX5_lots_19 rfl (by unfold iv; decide) ?_
      refine kf_v1i (n := 24) S dX5_lots_21 rfl ml_X5_38 ym_X5_no (ev_X5_no (by omega)) (by decide) rfl (Nat.le_of_ble_eq_true rfl) ?_
      refine ks_iret S dX5_lots_24 ?_
      exact qr_r hR (by unfold A_lots; (repeat' split) <;> first | rfl | omega)
  · skip
    refine ks_aload_n (n := 6) S dX5_lots_5 rfl rfl ?_
    refine ks_bipush (n := 8) S dX5_lots_6 rfl (by unfold iv; decide) ?_
    refine kf_v1i (n := 11) S dX5_lots_8 rfl ml_X5_38 ym_X5_no (ev_X5_no (by omega)) (by decide) rfl (Nat.le_of_ble_eq_true rfl) ?_
    refine ks_iret S dX5_lots_11 ?_
    exact qr_r hR (by unfold A_lots; (repeat' split) <;> first | rfl | omega)
end PUB7

