section PUB2
variable {l : Launch} {σ M : KS}
theorem wr_e (x : Int) : wr x = (x + 2147483648) % 4294967296 - 2147483648 := by
  unfold wr
  rw [Int32.toInt_ofInt, Int.bmod_def]
  simp only [show Int32.size = 4294967296 from rfl]
  omega
theorem vk_1 {x : Int} {v : KV} {r : List KV} (h : ∀ w ∈ v :: ki x :: r, vok w) : -2147483648 ≤ x ∧ x ≤ 2147483647 := h (ki x) (List.mem_cons_of_mem _ List.mem_cons_self)
/-- the first from i on, k of them at most -/
def m_fi (p : Int → Bool) : Nat → Int → Int
  | 0, _ => -9
  | k + 1, i => if p i = true then i else m_fi p k (i + 1)
theorem m_fi_s {p : Int → Bool} {e i : Int} (h : i < e) : m_fi p (e - i).toNat i = if p i = true then i else m_fi p (e - (i + 1)).toNat (i + 1) := by
  rw [show (e - i).toNat = (e - (i + 1)).toNat + 1 by omega]
  rfl
theorem m_fi_0 {p : Int → Bool} {e i : Int} (h : e ≤ i) : m_fi p (e - i).toNat i = -9 := by
  rw [show (e - i).toNat = 0 by omega]
  rfl
/-- where f is most, of several the least -/
def m_am (f : Int → Int) : Nat → Int
  | 0 => -9
  | n + 1 => if m_am f n < 0 ∨ f (m_am f n) < f n then n else m_am f n
theorem m_am_s {f : Int → Int} {i : Int} (h : 0 ≤ i) : m_am f (i + 1).toNat = if m_am f i.toNat < 0 ∨ f (m_am f i.toNat) < f i then i else m_am f i.toNat := by
  obtain ⟨n, rfl⟩ := Int.eq_ofNat_of_zero_le h
  rfl
theorem m_am_b (f : Int → Int) (n : Nat) : m_am f n = -9 ∨ (0 ≤ m_am f n ∧ m_am f n < n) := by
  induction n with
  | zero => exact Or.inl rfl
  | succ n ih =>
    unfold m_am
    split
    · exact Or.inr (by omega)
    · omega
theorem m_sum_0 {f : Int → Int} {n : Nat} (h : ∀ d : Int, 0 ≤ d → d < n → 0 ≤ f d) : m_sum f n = 0 ↔ ∀ d : Int, 0 ≤ d → d < n → f d = 0 := by
  have nn : ∀ k : Nat, k ≤ n → 0 ≤ m_sum f k := by
    intro k
    induction k with
    | zero => intro _; exact Int.le_refl 0
    | succ k ih => intro hk; have := ih (by omega); have := h k (by omega) (by omega); show 0 ≤ m_sum f k + f k; omega
  induction n with
  | zero => exact ⟨fun _ d h0 h1 => by omega, fun _ => rfl⟩
  | succ n ih =>
    have i1 := ih (fun d h0 h1 => h d h0 (by omega)) (fun k hk => nn k (by omega))
    have a1 := nn n (by omega)
    have a2 := h n (by omega) (by omega)
    constructor
    · intro hs d h0 h1
      have hs : m_sum f n + f n = 0 := hs
      by_cases hd : d = n
      · rw [hd]; omega
      · exact i1.mp (by omega) d h0 (by omega)
    · intro hs
      show m_sum f n + f n = 0
      rw [i1.mpr (fun d h0 h1 => hs d h0 (by omega)), hs n (by omega) (by omega)]; rfl
theorem qc_mk {τ N : KS} {A : Int × KS} {x : Int} (h : RC τ N) (hf : ∀ c, 38 ≤ c → τ c = σ c) (e : A = (x, N)) : QC A σ (some (ki x)) τ := by rw [e]; exact ⟨rfl, h, hf⟩
theorem qr_mk {τ N : KS} {A : Int × KS} {x : Int} (h : RR τ N) (hf : ∀ c, c < 38 → τ c = σ c) (e : A = (x, N)) : QR A σ (some (ki x)) τ := by rw [e]; exact ⟨rfl, h, hf⟩
def A_letter (M : KS) (c : Int) : Int × KS := if c < 0 then (-4, rfM M (-4)) else if 255 < c ∨ M 38 8 = 96 then (-6, rfM M (-6)) else (M 38 8 + 1, kq_up (kq_up M 43 (M 38 8) c) 38 8 (M 38 8 + 1))
theorem ev_X2_add {c : Int} (h : 0 ≤ σ 31 1 ∧ σ 31 1 < 96) : Ev l yX2_add cX2_add 2 none 0 0 [kr 31, ki c] σ (Rt none (kq_up (kq_up σ 32 (σ 31 1) c) 31 1 (σ 31 1 + 1))) := by
  refine ev_intro ym_X2_add.1 (Nat.le_of_ble_eq_true rfl) (fun hv hσ K S => ?_)
  have hv := hv
  show K 0 [some (kr 31), some (ki c)] [] σ
  refine ks_aload_n (n := 1) S dX2_add_0 rfl rfl ?_
  refine ks_getI (n := 4) (fi := 1) S dX2_add_1 rfl fl_X2_15 rfl rfl rfl ?_
  refine ks_bipush (n := 6) S dX2_add_4 rfl (by unfold iv; decide) ?_
  refine ks_icmp_ge (n := 9) (tgt := 29) S dX2_add_6 rfl rfl (fun h6 => ?_) (fun h6 => ?_)
  · omega
  refine ks_aload_n (n := 10) S dX2_add_9 rfl rfl ?_
  refine ks_getr (n := 13) S dX2_add_10 rfl fl_X2_9 rfl rfl ?_
  refine ks_aload_n (n := 14) S dX2_add_13 rfl rfl ?_
  refine ks_getI (n := 17) (fi := 1) S dX2_add_14 rfl fl_X2_15 rfl rfl rfl ?_
  refine ks_iload_n (n := 18) S dX2_add_17 rfl rfl ?_
  refine ks_iastore (n := 19) S dX2_add_18 rfl rfl (by omega) ?_
  refine ks_aload_n (n := 20) S dX2_add_19 rfl rfl ?_
  refine ks_dup (n := 21) S dX2_add_20 rfl rfl ?_
  refine ks_getI (n := 24) (fi := 1) S dX2_add_21 rfl fl_X2_15 rfl rfl rfl ?_
  refine ks_iconst (n := 25) S dX2_add_24 rfl (by unfold iv; decide) ?_
  refine ks_iadd (n := 26) S dX2_add_25 rfl (by rw [kq_up_c (by decide)]; omega) ?_
  refine ks_putI (n := 29) (fi := 1) S dX2_add_26 rfl fw_X2_15 rfl rfl (Or.inl rfl) rfl ?_
  refine ks_vret S dX2_add_29 ?_
  refine ⟨rfl, ?_⟩
  rw [kq_up_c (show (31 : Nat) ≠ 32 by decide)]
theorem pc_letter {c : Int} (hM : OkM M) (hC : RC σ M) : Ev l yX4_letter cX4_letter 2 (some .int) 1 21 [kr 0, ki c] σ (QC (A_letter M c) σ) := by
  have R := hC.1
  have ok := hM.1
  have n9 := ok.1
  have n6 := ok.2.1
  have s8 : σ 31 1 = M 38 8 := hC.2.2.2.1
  have m8 := hM.2.2.2.2.2.1
  refine ev_intro ym_X4_letter.1 (Nat.le_of_ble_eq_true rfl) (fun hv hσ K S => ?_)
  have hv := hv
  show K 0 [some (kr 0), some (ki c)] [] σ
  refine ks_iload_n (n := 1) S dX4_letter_0 rfl rfl ?_
  refine ks_if_ge (n := 4) (tgt := 11) S dX4_letter_1 rfl rfl (fun h1 => ?_) (fun h1 => ?_)
  · skip
    refine ks_iload_n (n := 12) S dX4_letter_11 rfl rfl ?_
    refine ks_sipush (n := 15) S dX4_letter_12 rfl (by unfold iv; decide) ?_
    refine ks_icmp_gt (n := 18) (tgt := 30) S dX4_letter_15 rfl rfl (fun h15 => ?_) (fun h15 => ?_)
    · skip
      refine ks_aload_n (n := 31) S dX4_letter_30 rfl rfl ?_
      refine ks_bipush (n := 33) S dX4_letter_31 rfl (by unfold iv; decide) ?_
      refine kf_v1i (n := 36) S dX4_letter_33 rfl ml_X4_51 ym_X4_refuse (ev_X4_refuse (by omega)) (by decide) rfl (Nat.le_of_ble_eq_true rfl) ?_
      refine ks_iret S dX4_letter_36 ?_
      first | exact qc_r hC (by omega) (by unfold A_letter; (repeat' split) <;> first | rfl | omega | (congr 1; omega)) | exact qc_a hC (by unfold A_letter; (repeat' split) <;> first | rfl | omega | (congr 1; omega))
    · skip
      refine ks_aload_n (n := 19) S dX4_letter_18 rfl rfl ?_
      refine ks_getr (n := 22) S dX4_letter_19 rfl fl_X4_29 rfl rfl ?_
      refine ks_getI (n := 25) (fi := 1) S dX4_letter_22 rfl fl_X4_55 rfl rfl rfl ?_
      refine ks_bipush (n := 27) S dX4_letter_25 rfl (by unfold iv; decide) ?_
      refine ks_icmp_lt (n := 30) (tgt := 37) S dX4_letter_27 rfl rfl (fun h27 => ?_) (fun h27 => ?_)
      · skip
        refine ks_aload_n (n := 38) S dX4_letter_37 rfl rfl ?_
        refine ks_getr (n := 41) S dX4_letter_38 rfl fl_X4_29 rfl rfl ?_
        refine ks_iload_n (n := 42) S dX4_letter_41 rfl rfl ?_
        refine kf_v1v (n := 45) S dX4_letter_42 rfl ml_X4_58 ym_X2_add (ev_X2_add (by omega)) (by decide) rfl (Nat.le_of_ble_eq_true rfl) ?_
        refine ks_aload_n (n := 46) S dX4_letter_45 rfl rfl ?_
        refine ks_getr (n := 49) S dX4_letter_46 rfl fl_X4_29 rfl rfl ?_
        refine ks_getI (n := 52) (fi := 1) S dX4_letter_49 rfl fl_X4_55 rfl rfl rfl ?_
        refine ks_iret S dX4_letter_52 ?_
        obtain ⟨h1, h2, h3, h4, h5, h6, h7, h8⟩ := hC
        rw [kq_up_s, h4]
        have z : ∀ d, d ≠ 31 → d ≠ 32 → kq_up (kq_up σ 32 (M 38 8) c) 31 1 (M 38 8 + 1) d = σ d := fun d q1 q2 => funext fun j => by rw [kq_up_c q1, kq_up_c q2]
        have w : ∀ d, d ≠ 38 → d ≠ 43 → kq_up (kq_up M 43 (M 38 8) c) 38 8 (M 38 8 + 1) d = M d := fun d q1 q2 => funext fun j => by rw [kq_up_c q1, kq_up_c q2]
        have w38 : ∀ j, j ≠ 8 → kq_up (kq_up M 43 (M 38 8) c) 38 8 (M 38 8 + 1) 38 j = M 38 j := fun j q1 => by rw [kq_up_i q1, kq_up_c (by decide)]
        refine qc_mk (N := kq_up (kq_up M 43 (M 38 8) c) 38 8 (M 38 8 + 1)) ⟨?_, ?_, ?_, ?_, ?_, ?_, ?_, ?_⟩ (fun d hd => z d (by omega) (by omega)) (by unfold A_letter; rw [if_neg (by omega), if_neg (by omega)])
        · show RepH _ 1 (kq_up (kq_up M 43 (M 38 8) c) 38 8 (M 38 8 + 1) 39)
          rw [w 39 (by decide) (by decide)]; exact h1.cells (fun d _ _ => z d (by omega) (by omega))
        · show kq_up (kq_up M 43 (M 38 8) c) 38 8 (M 38 8 + 1) 38 4 = 1 → RepH _ 21 (kq_up (kq_up M 43 (M 38 8) c) 38 8 (M 38 8 + 1) 41)
          rw [w38 4 (by decide), w 41 (by decide) (by decide)]; exact fun hi => (h2 hi).cells (fun d _ _ => z d (by omega) (by omega))
        · show _ = kq_up (kq_up M 43 (M 38 8) c) 38 8 (M 38 8 + 1) 38 4
          rw [w38 4 (by decide), z 0 (by decide) (by decide)]; exact h3
        · show _ = kq_up (kq_up M 43 (M 38 8) c) 38 8 (M 38 8 + 1) 38 8
          rw [kq_up_s, kq_up_s]
        · show ∀ j, 0 ≤ j → j < kq_up (kq_up M 43 (M 38 8) c) 38 8 (M 38 8 + 1) 38 8 → _ = kq_up (kq_up M 43 (M 38 8) c) 38 8 (M 38 8 + 1) 43 j
          rw [kq_up_s]
          intro j j0 j1
          rw [kq_up_c (show (32 : Nat) ≠ 31 by decide), kq_up_c (show (43 : Nat) ≠ 38 by decide), kq_up_of, kq_up_of]
          split
          · rfl
          · exact h5 j j0 (by omega)
        · show _ = kq_up (kq_up M 43 (M 38 8) c) 38 8 (M 38 8 + 1) 38 9
          rw [w38 9 (by decide), z 0 (by decide) (by decide)]; exact h6
        · show ∀ j, 0 ≤ j → j < kq_up (kq_up M 43 (M 38 8) c) 38 8 (M 38 8 + 1) 38 9 → _ = kq_up (kq_up M 43 (M 38 8) c) 38 8 (M 38 8 + 1) 44 j
          rw [w38 9 (by decide), w 44 (by decide) (by decide), z 36 (by decide) (by decide)]; exact h7
        · show ∀ k, 0 ≤ k → k ≤ 6 → _ = kq_up (kq_up M 43 (M 38 8) c) 38 8 (M 38 8 + 1) 45 k
          rw [w 45 (by decide) (by decide), z 37 (by decide) (by decide)]; exact h8
      · skip
        refine ks_aload_n (n := 31) S dX4_letter_30 rfl rfl ?_
        refine ks_bipush (n := 33) S dX4_letter_31 rfl (by unfold iv; decide) ?_
        refine kf_v1i (n := 36) S dX4_letter_33 rfl ml_X4_51 ym_X4_refuse (ev_X4_refuse (by omega)) (by decide) rfl (Nat.le_of_ble_eq_true rfl) ?_
        refine ks_iret S dX4_letter_36 ?_
        first | exact qc_r hC (by omega) (by unfold A_letter; (repeat' split) <;> first | rfl | omega | (congr 1; omega)) | exact qc_a hC (by unfold A_letter; (repeat' split) <;> first | rfl | omega | (congr 1; omega))
  · skip
    refine ks_aload_n (n := 5) S dX4_letter_4 rfl rfl ?_
    refine ks_bipush (n := 7) S dX4_letter_5 rfl (by unfold iv; decide) ?_
    refine kf_v1i (n := 10) S dX4_letter_7 rfl ml_X4_51 ym_X4_refuse (ev_X4_refuse (by omega)) (by decide) rfl (Nat.le_of_ble_eq_true rfl) ?_
    refine ks_iret S dX4_letter_10 ?_
    first | exact qc_r hC (by omega) (by unfold A_letter; (repeat' split) <;> first | rfl | omega | (congr 1; omega)) | exact qc_a hC (by unfold A_letter; (repeat' split) <;> first | rfl | omega | (congr 1; omega))
theorem RR.fields {σ τ M N : KS} (h : RR σ M) (ht : ∀ c, c = 39 ∨ c = 40 ∨ c = 41 ∨ c = 42 → τ c = σ c) (hn : ∀ c, c = 39 ∨ c = 41 → N c = M c) (h4 : τ 38 4 = N 38 4) (h8 : τ 38 8 = N 38 8) (h9 : τ 38 9 = N 38 9) (h43 : τ 43 = N 43) (h44 : τ 44 = N 44) (h45 : τ 45 = N 45) : RR τ N := by
  obtain ⟨q1, q2, q3, q4, q5, q6, q7, q8, q9, q10⟩ := h
  exact ⟨by rw [ht 39 (by omega), hn 39 (by omega)]; exact q1, by rw [ht 41 (by omega), hn 41 (by omega)]; exact q2, h4, h8, h9, h43, h44, h45, by rw [ht 40 (by omega)]; exact q9, by rw [ht 42 (by omega)]; exact q10⟩
theorem pr_letter {c : Int} (hM : OkM M) (hR : RR σ M) : Ev l yX5_letter cX5_letter 2 (some .int) 1 21 [kr 38, ki c] σ (QR (A_letter M c) σ) := by
  have e39 : σ 39 = M 39 := hR.1
  have ok : OkR (σ 39) := by rw [e39]; exact hM.1
  have n9 := ok.1
  have n6 := ok.2.1
  have s8 : σ 38 8 = M 38 8 := hR.2.2.2.1
  have m8 := hM.2.2.2.2.2.1
  refine ev_intro ym_X5_letter.1 (Nat.le_of_ble_eq_true rfl) (fun hv hσ K S => ?_)
  have hv := hv
  show K 0 [some (kr 38), some (ki c)] [] σ
  refine ks_iload_n (n := 1) S dX5_letter_0 rfl rfl ?_
  refine ks_if_ge (n := 4) (tgt := 11) S dX5_letter_1 rfl rfl (fun h1 => ?_) (fun h1 => ?_)
  · skip
    refine ks_iload_n (n := 12) S dX5_letter_11 rfl rfl ?_
    refine ks_sipush (n := 15) S dX5_letter_12 rfl (by unfold iv; decide) ?_
    refine ks_icmp_gt (n := 18) (tgt := 27) S dX5_letter_15 rfl rfl (fun h15 => ?_) (fun h15 => ?_)
    · skip
      refine ks_aload_n (n := 28) S dX5_letter_27 rfl rfl ?_
      refine ks_bipush (n := 30) S dX5_letter_28 rfl (by unfold iv; decide) ?_
      refine kf_v1i (n := 33) S dX5_letter_30 rfl ml_X5_38 ym_X5_no (ev_X5_no (by omega)) (by decide) rfl (Nat.le_of_ble_eq_true rfl) ?_
      refine ks_iret S dX5_letter_33 ?_
      first | exact qr_r hR (by unfold A_letter; (try simp only [← e39]); (repeat' split) <;> first | rfl | omega | (congr 1; omega)) | exact qr_a hR (by unfold A_letter; (try simp only [← e39]); (repeat' split) <;> first | rfl | omega | (congr 1; omega))
    · skip
      refine ks_aload_n (n := 19) S dX5_letter_18 rfl rfl ?_
      refine ks_getI (n := 22) (fi := 8) S dX5_letter_19 rfl fl_X5_87 rfl rfl rfl ?_
      refine ks_bipush (n := 24) S dX5_letter_22 rfl (by unfold iv; decide) ?_
      refine ks_icmp_ne (n := 27) (tgt := 34) S dX5_letter_24 rfl rfl (fun h24 => ?_) (fun h24 => ?_)
      · skip
        refine ks_aload_n (n := 35) S dX5_letter_34 rfl rfl ?_
        refine ks_getr (n := 38) S dX5_letter_35 rfl fl_X5_22 rfl rfl ?_
        refine ks_aload_n (n := 39) S dX5_letter_38 rfl rfl ?_
        refine ks_getI (n := 42) (fi := 8) S dX5_letter_39 rfl fl_X5_87 rfl rfl rfl ?_
        refine ks_iload_n (n := 43) S dX5_letter_42 rfl rfl ?_
        refine ks_iastore (n := 44) S dX5_letter_43 rfl rfl (by omega) ?_
        refine ks_aload_n (n := 45) S dX5_letter_44 rfl rfl ?_
        refine ks_dup (n := 46) S dX5_letter_45 rfl rfl ?_
        refine ks_getI (n := 49) (fi := 8) S dX5_letter_46 rfl fl_X5_87 rfl rfl rfl ?_
        refine ks_iconst (n := 50) S dX5_letter_49 rfl (by unfold iv; decide) ?_
        refine ks_iadd (n := 51) S dX5_letter_50 rfl (by rw [kq_up_c (by decide)]; omega) ?_
        refine ks_putI (n := 54) (fi := 8) S dX5_letter_51 rfl fw_X5_87 rfl rfl (Or.inl rfl) rfl ?_
        refine ks_aload_n (n := 55) S dX5_letter_54 rfl rfl ?_
        refine ks_getI (n := 58) (fi := 8) S dX5_letter_55 rfl fl_X5_87 rfl rfl rfl ?_
        refine ks_iret S dX5_letter_58 ?_
        rw [kq_up_s, kq_up_c (show (38 : Nat) ≠ 43 by decide), s8]
        obtain ⟨q1, q2, q3, q4, q5, q6, q7, q8, q9, q10⟩ := hR
        refine qr_mk (N := kq_up (kq_up M 43 (M 38 8) c) 38 8 (M 38 8 + 1)) (RR.fields ⟨q1, q2, q3, q4, q5, q6, q7, q8, q9, q10⟩ (fun d hd => funext fun j => by rw [kq_up_c (by omega), kq_up_c (by omega)]) (fun d hd => funext fun j => by rw [kq_up_c (by omega), kq_up_c (by omega)]) ?_ ?_ ?_ ?_ ?_ ?_) (fun d hd => funext fun j => by rw [kq_up_c (by omega), kq_up_c (by omega)]) (by unfold A_letter; rw [if_neg (by omega), if_neg (by omega)])
        · rw [kq_up_i (by decide), kq_up_c (by decide), kq_up_i (by decide), kq_up_c (by decide)]; exact q3
        · rw [kq_up_s, kq_up_s]
        · rw [kq_up_i (by decide), kq_up_c (by decide), kq_up_i (by decide), kq_up_c (by decide)]; exact q5
        · funext j; rw [kq_up_c (show (43 : Nat) ≠ 38 by decide), kq_up_c (show (43 : Nat) ≠ 38 by decide), kq_up_of, kq_up_of, q6]
        · funext j; rw [kq_up_c (by decide), kq_up_c (by decide), kq_up_c (by decide), kq_up_c (by decide), q7]
        · funext j; rw [kq_up_c (by decide), kq_up_c (by decide), kq_up_c (by decide), kq_up_c (by decide), q8]
      · skip
        refine ks_aload_n (n := 28) S dX5_letter_27 rfl rfl ?_
        refine ks_bipush (n := 30) S dX5_letter_28 rfl (by unfold iv; decide) ?_
        refine kf_v1i (n := 33) S dX5_letter_30 rfl ml_X5_38 ym_X5_no (ev_X5_no (by omega)) (by decide) rfl (Nat.le_of_ble_eq_true rfl) ?_
        refine ks_iret S dX5_letter_33 ?_
        first | exact qr_r hR (by unfold A_letter; (try simp only [← e39]); (repeat' split) <;> first | rfl | omega | (congr 1; omega)) | exact qr_a hR (by unfold A_letter; (try simp only [← e39]); (repeat' split) <;> first | rfl | omega | (congr 1; omega))
  · skip
    refine ks_aload_n (n := 5) S dX5_letter_4 rfl rfl ?_
    refine ks_bipush (n := 7) S dX5_letter_5 rfl (by unfold iv; decide) ?_
    refine kf_v1i (n := 10) S dX5_letter_7 rfl ml_X5_38 ym_X5_no (ev_X5_no (by omega)) (by decide) rfl (Nat.le_of_ble_eq_true rfl) ?_
    refine ks_iret S dX5_letter_10 ?_
    first | exact qr_r hR (by unfold A_letter; (try simp only [← e39]); (repeat' split) <;> first | rfl | omega | (congr 1; omega)) | exact qr_a hR (by unfold A_letter; (try simp only [← e39]); (repeat' split) <;> first | rfl | omega | (congr 1; omega))
def A_row (M : KS) (v : Int) : Int × KS := if v < 0 then (-4, rfM M (-4)) else if 99 < v ∨ M 38 9 = 16 then (-6, rfM M (-6)) else (M 38 9 + 1, kq_up (kq_up M 44 (M 38 9) v) 38 9 (M 38 9 + 1))
/-- the class's rows and the model's after a change of the told row -/
theorem RC.row {σ τ M N : KS} (h : RC σ M) (ht : ∀ c, c ≠ 0 → c ≠ 36 → τ c = σ c) (hn : ∀ c, c ≠ 38 → c ≠ 44 → N c = M c) (h0 : τ 0 3 = σ 0 3) (h4 : N 38 4 = M 38 4) (h8 : N 38 8 = M 38 8) (h9 : τ 0 7 = N 38 9) (hr : ∀ j, 0 ≤ j → j < N 38 9 → τ 36 j = N 44 j) : RC τ N := by
  obtain ⟨q1, q2, q3, q4, q5, q6, q7, q8⟩ := h
  refine ⟨?_, ?_, ?_, ?_, ?_, h9, hr, ?_⟩
  · rw [hn 39 (by decide) (by decide)]; exact q1.cells (fun d _ _ => ht d (by omega) (by omega))
  · rw [h4, hn 41 (by decide) (by decide)]; exact fun hi => (q2 hi).cells (fun d _ _ => ht d (by omega) (by omega))
  · rw [h0, h4]; exact q3
  · rw [h8, ht 31 (by decide) (by decide)]; exact q4
  · rw [h8, hn 43 (by decide) (by decide), ht 32 (by decide) (by decide)]; exact q5
  · rw [hn 45 (by decide) (by decide), ht 37 (by decide) (by decide)]; exact q8
theorem RC.noRow {σ τ M : KS} (h : RC σ M) (ht : FrT σ τ) : RC (kq_up τ 0 7 0) (kq_up M 38 9 0) := by
  refine (h.fr ht).row (fun c q1 q2 => funext fun j => kq_up_c q1) (fun c q1 q2 => funext fun j => kq_up_c q1) (kq_up_i (by decide)) (kq_up_i (by decide)) (kq_up_i (by decide)) (by rw [kq_up_s, kq_up_s]) (fun j j0 j1 => ?_)
  rw [kq_up_s] at j1
  omega
theorem RR.noRow {σ M : KS} (h : RR σ M) : RR (kq_up σ 38 9 0) (kq_up M 38 9 0) := by
  obtain ⟨q1, q2, q3, q4, q5, q6, q7, q8, q9, q10⟩ := h
  refine RR.fields ⟨q1, q2, q3, q4, q5, q6, q7, q8, q9, q10⟩ (fun d hd => funext fun j => by rw [kq_up_c (by omega)]) (fun d hd => funext fun j => by rw [kq_up_c (by omega)]) ?_ ?_ ?_ ?_ ?_ ?_
  · rw [kq_up_i (by decide), kq_up_i (by decide)]; exact q3
  · rw [kq_up_i (by decide), kq_up_i (by decide)]; exact q4
  · rw [kq_up_s, kq_up_s]
  · funext j; rw [kq_up_c (by decide), kq_up_c (by decide), q6]
  · funext j; rw [kq_up_c (by decide), kq_up_c (by decide), q7]
  · funext j; rw [kq_up_c (by decide), kq_up_c (by decide), q8]
theorem pc_row {v : Int} (hM : OkM M) (hC : RC σ M) : Ev l yX4_row cX4_row 2 (some .int) 1 21 [kr 0, ki v] σ (QC (A_row M v) σ) := by
  have R := hC.1
  have ok := hM.1
  have n9 := ok.1
  have n6 := ok.2.1
  have s9 : σ 0 7 = M 38 9 := hC.2.2.2.2.2.1
  have m9 := hM.2.2.2.2.2.2.2.1
  refine ev_intro ym_X4_row.1 (Nat.le_of_ble_eq_true rfl) (fun hv hσ K S => ?_)
  have hv := hv
  show K 0 [some (kr 0), some (ki v)] [] σ
  refine ks_iload_n (n := 1) S dX4_row_0 rfl rfl ?_
  refine ks_if_ge (n := 4) (tgt := 11) S dX4_row_1 rfl rfl (fun h1 => ?_) (fun h1 => ?_)
  · skip
    refine ks_iload_n (n := 12) S dX4_row_11 rfl rfl ?_
    refine ks_bipush (n := 14) S dX4_row_12 rfl (by unfold iv; decide) ?_
    refine ks_icmp_gt (n := 17) (tgt := 26) S dX4_row_14 rfl rfl (fun h14 => ?_) (fun h14 => ?_)
    · skip
      refine ks_aload_n (n := 27) S dX4_row_26 rfl rfl ?_
      refine ks_bipush (n := 29) S dX4_row_27 rfl (by unfold iv; decide) ?_
      refine kf_v1i (n := 32) S dX4_row_29 rfl ml_X4_51 ym_X4_refuse (ev_X4_refuse (by omega)) (by decide) rfl (Nat.le_of_ble_eq_true rfl) ?_
      refine ks_iret S dX4_row_32 ?_
      first | exact qc_r hC (by omega) (by unfold A_row; (repeat' split) <;> first | rfl | omega | (congr 1; omega)) | exact qc_a hC (by unfold A_row; (repeat' split) <;> first | rfl | omega | (congr 1; omega))
    · skip
      refine ks_aload_n (n := 18) S dX4_row_17 rfl rfl ?_
      refine ks_getI (n := 21) (fi := 7) S dX4_row_18 rfl fl_X4_44 rfl rfl rfl ?_
      refine ks_bipush (n := 23) S dX4_row_21 rfl (by unfold iv; decide) ?_
      refine ks_icmp_lt (n := 26) (tgt := 33) S dX4_row_23 rfl rfl (fun h23 => ?_) (fun h23 => ?_)
      · skip
        refine ks_aload_n (n := 34) S dX4_row_33 rfl rfl ?_
        refine ks_getr (n := 37) S dX4_row_34 rfl fl_X4_40 rfl rfl ?_
        refine ks_aload_n (n := 38) S dX4_row_37 rfl rfl ?_
        refine ks_getI (n := 41) (fi := 7) S dX4_row_38 rfl fl_X4_44 rfl rfl rfl ?_
        refine ks_iload_n (n := 42) S dX4_row_41 rfl rfl ?_
        refine ks_iastore (n := 43) S dX4_row_42 rfl rfl (by omega) ?_
        refine ks_aload_n (n := 44) S dX4_row_43 rfl rfl ?_
        refine ks_dup (n := 45) S dX4_row_44 rfl rfl ?_
        refine ks_getI (n := 48) (fi := 7) S dX4_row_45 rfl fl_X4_44 rfl rfl rfl ?_
        refine ks_iconst (n := 49) S dX4_row_48 rfl (by unfold iv; decide) ?_
        refine ks_iadd (n := 50) S dX4_row_49 rfl (by rw [kq_up_c (by decide)]; omega) ?_
        refine ks_putI (n := 53) (fi := 7) S dX4_row_50 rfl fw_X4_44 rfl rfl (Or.inl rfl) rfl ?_
        refine ks_aload_n (n := 54) S dX4_row_53 rfl rfl ?_
        refine ks_getI (n := 57) (fi := 7) S dX4_row_54 rfl fl_X4_44 rfl rfl rfl ?_
        refine ks_iret S dX4_row_57 ?_
        rw [kq_up_s, kq_up_c (show (0 : Nat) ≠ 36 by decide), s9]
        refine qc_mk (N := kq_up (kq_up M 44 (M 38 9) v) 38 9 (M 38 9 + 1)) (hC.row (fun c q1 q2 => funext fun j => by rw [kq_up_c q1, kq_up_c q2]) (fun c q1 q2 => funext fun j => by rw [kq_up_c q1, kq_up_c q2]) (by rw [kq_up_i (by decide), kq_up_c (by decide)]) (by rw [kq_up_i (by decide), kq_up_c (by decide)]) (by rw [kq_up_i (by decide), kq_up_c (by decide)]) (by rw [kq_up_s, kq_up_s]) ?_) (fun d hd => funext fun j => by rw [kq_up_c (by omega), kq_up_c (by omega)]) (by unfold A_row; rw [if_neg (by omega), if_neg (by omega)])
        show ∀ j, 0 ≤ j → j < kq_up (kq_up M 44 (M 38 9) v) 38 9 (M 38 9 + 1) 38 9 → _ = kq_up (kq_up M 44 (M 38 9) v) 38 9 (M 38 9 + 1) 44 j
        rw [kq_up_s]
        intro j j0 j1
        rw [kq_up_c (show (36 : Nat) ≠ 0 by decide), kq_up_c (show (44 : Nat) ≠ 38 by decide), kq_up_of, kq_up_of]
        split
        · rfl
        · exact hC.2.2.2.2.2.2.1 j j0 (by omega)
      · skip
        refine ks_aload_n (n := 27) S dX4_row_26 rfl rfl ?_
        refine ks_bipush (n := 29) S dX4_row_27 rfl (by unfold iv; decide) ?_
        refine kf_v1i (n := 32) S dX4_row_29 rfl ml_X4_51 ym_X4_refuse (ev_X4_refuse (by omega)) (by decide) rfl (Nat.le_of_ble_eq_true rfl) ?_
        refine ks_iret S dX4_row_32 ?_
        first | exact qc_r hC (by omega) (by unfold A_row; (repeat' split) <;> first | rfl | omega | (congr 1; omega)) | exact qc_a hC (by unfold A_row; (repeat' split) <;> first | rfl | omega | (congr 1; omega))
  · skip
    refine ks_aload_n (n := 5) S dX4_row_4 rfl rfl ?_
    refine ks_bipush (n := 7) S dX4_row_5 rfl (by unfold iv; decide) ?_
    refine kf_v1i (n := 10) S dX4_row_7 rfl ml_X4_51 ym_X4_refuse (ev_X4_refuse (by omega)) (by decide) rfl (Nat.le_of_ble_eq_true rfl) ?_
    refine ks_iret S dX4_row_10 ?_
    first | exact qc_r hC (by omega) (by unfold A_row; (repeat' split) <;> first | rfl | omega | (congr 1; omega)) | exact qc_a hC (by unfold A_row; (repeat' split) <;> first | rfl | omega | (congr 1; omega))
theorem pr_row {v : Int} (hM : OkM M) (hR : RR σ M) : Ev l yX5_row cX5_row 3 (some .int) 1 22 [kr 38, ki v] σ (QR (A_row M v) σ) := by
  have e39 : σ 39 = M 39 := hR.1
  have ok : OkR (σ 39) := by rw [e39]; exact hM.1
  have n9 := ok.1
  have n6 := ok.2.1
  have s9 : σ 38 9 = M 38 9 := hR.2.2.2.2.1
  have m9 := hM.2.2.2.2.2.2.2.1
  refine ev_intro ym_X5_row.1 (Nat.le_of_ble_eq_true rfl) (fun hv hσ K S => ?_)
  have hv := hv
  show K 0 [some (kr 38), some (ki v), none] [] σ
  refine ks_iload_n (n := 1) S dX5_row_0 rfl rfl ?_
  refine ks_iconst (n := 2) S dX5_row_1 rfl (by unfold iv; decide) ?_
  refine ks_bipush (n := 4) S dX5_row_2 rfl (by unfold iv; decide) ?_
  refine kf_s3i (n := 7) S dX5_row_4 rfl ml_X5_144 ym_X5_wrongBy (ev_X5_wrongBy) (by decide) (Nat.le_of_ble_eq_true rfl) ?_
  rcases m_out v 0 99 with ⟨hc4, hw4⟩ | ⟨hc4, hd4, hw4⟩ | ⟨hc4, hd4, hw4⟩
  · skip
    rw [hw4]
    refine ks_istore_n (n := 8) S dX5_row_7 rfl rfl (L' := fun y => [some (kr 38), some (ki v), some (ki y)]) (Nat.le_of_ble_eq_true rfl) (fun _ => rfl) (fun v2_7 hv7 => ?_)
    subst hv7
    refine ks_iload_n (n := 9) S dX5_row_8 rfl rfl ?_
    refine ks_if_ne (n := 12) (tgt := 24) S dX5_row_9 rfl rfl (fun h9 => ?_) (fun h9 => ?_)
    rotate_left
    · omega
    refine ks_iload_n (n := 25) S dX5_row_24 rfl rfl ?_
    refine ks_if_eq (n := 28) (tgt := 34) S dX5_row_25 rfl rfl (fun h25 => ?_) (fun h25 => ?_)
    · omega
    refine ks_aload_n (n := 29) S dX5_row_28 rfl rfl ?_
    refine ks_iload_n (n := 30) S dX5_row_29 rfl rfl ?_
    refine kf_v1i (n := 33) S dX5_row_30 rfl ml_X5_38 ym_X5_no (ev_X5_no (by omega)) (by decide) rfl (Nat.le_of_ble_eq_true rfl) ?_
    refine ks_iret S dX5_row_33 ?_
    first | exact qr_r hR (by unfold A_row; (try simp only [← e39]); (repeat' split) <;> first | rfl | omega | (congr 1; omega)) | exact qr_a hR (by unfold A_row; (try simp only [← e39]); (repeat' split) <;> first | rfl | omega | (congr 1; omega))
  · skip
    rw [hw4]
    refine ks_istore_n (n := 8) S dX5_row_7 rfl rfl (L' := fun y => [some (kr 38), some (ki v), some (ki y)]) (Nat.le_of_ble_eq_true rfl) (fun _ => rfl) (fun v2_7 hv7 => ?_)
    subst hv7
    refine ks_iload_n (n := 9) S dX5_row_8 rfl rfl ?_
    refine ks_if_ne (n := 12) (tgt := 24) S dX5_row_9 rfl rfl (fun h9 => ?_) (fun h9 => ?_)
    rotate_left
    · omega
    refine ks_iload_n (n := 25) S dX5_row_24 rfl rfl ?_
    refine ks_if_eq (n := 28) (tgt := 34) S dX5_row_25 rfl rfl (fun h25 => ?_) (fun h25 => ?_)
    · omega
    refine ks_aload_n (n := 29) S dX5_row_28 rfl rfl ?_
    refine ks_iload_n (n := 30) S dX5_row_29 rfl rfl ?_
    refine kf_v1i (n := 33) S dX5_row_30 rfl ml_X5_38 ym_X5_no (ev_X5_no (by omega)) (by decide) rfl (Nat.le_of_ble_eq_true rfl) ?_
    refine ks_iret S dX5_row_33 ?_
    first | exact qr_r hR (by unfold A_row; (try simp only [← e39]); (repeat' split) <;> first | rfl | omega | (congr 1; omega)) | exact qr_a hR (by unfold A_row; (try simp only [← e39]); (repeat' split) <;> first | rfl | omega | (congr 1; omega))
  · skip
    rw [hw4]
    refine ks_istore_n (n := 8) S dX5_row_7 rfl rfl (L' := fun y => [some (kr 38), some (ki v), some (ki y)]) (Nat.le_of_ble_eq_true rfl) (fun _ => rfl) (fun v2_7 hv7 => ?_)
    subst hv7
    refine ks_iload_n (n := 9) S dX5_row_8 rfl rfl ?_
    refine ks_if_ne (n := 12) (tgt := 24) S dX5_row_9 rfl rfl (fun h9 => ?_) (fun h9 => ?_)
    · omega
    refine ks_aload_n (n := 13) S dX5_row_12 rfl rfl ?_
    refine ks_getI (n := 16) (fi := 9) S dX5_row_13 rfl fl_X5_188 rfl rfl rfl ?_
    refine ks_bipush (n := 18) S dX5_row_16 rfl (by unfold iv; decide) ?_
    refine ks_icmp_ne (n := 21) (tgt := 24) S dX5_row_18 rfl rfl (fun h18 => ?_) (fun h18 => ?_)
    · skip
      refine ks_iload_n (n := 25) S dX5_row_24 rfl rfl ?_
      refine ks_if_eq (n := 28) (tgt := 34) S dX5_row_25 rfl rfl (fun h25 => ?_) (fun h25 => ?_)
      rotate_left
      · omega
      refine ks_aload_n (n := 35) S dX5_row_34 rfl rfl ?_
      refine ks_getr (n := 38) S dX5_row_35 rfl fl_X5_25 rfl rfl ?_
      refine ks_aload_n (n := 39) S dX5_row_38 rfl rfl ?_
      refine ks_getI (n := 42) (fi := 9) S dX5_row_39 rfl fl_X5_188 rfl rfl rfl ?_
      refine ks_iload_n (n := 43) S dX5_row_42 rfl rfl ?_
      refine ks_iastore (n := 44) S dX5_row_43 rfl rfl (by omega) ?_
      refine ks_aload_n (n := 45) S dX5_row_44 rfl rfl ?_
      refine ks_dup (n := 46) S dX5_row_45 rfl rfl ?_
      refine ks_getI (n := 49) (fi := 9) S dX5_row_46 rfl fl_X5_188 rfl rfl rfl ?_
      refine ks_iconst (n := 50) S dX5_row_49 rfl (by unfold iv; decide) ?_
      refine ks_iadd (n := 51) S dX5_row_50 rfl (by rw [kq_up_c (by decide)]; omega) ?_
      refine ks_putI (n := 54) (fi := 9) S dX5_row_51 rfl fw_X5_188 rfl rfl (Or.inl rfl) rfl ?_
      refine ks_aload_n (n := 55) S dX5_row_54 rfl rfl ?_
      refine ks_getI (n := 58) (fi := 9) S dX5_row_55 rfl fl_X5_188 rfl rfl rfl ?_
      refine ks_iret S dX5_row_58 ?_
      rw [kq_up_s, kq_up_c (show (38 : Nat) ≠ 44 by decide), s9]
      obtain ⟨q1, q2, q3, q4, q5, q6, q7, q8, q9, q10⟩ := hR
      refine qr_mk (N := kq_up (kq_up M 44 (M 38 9) v) 38 9 (M 38 9 + 1)) (RR.fields ⟨q1, q2, q3, q4, q5, q6, q7, q8, q9, q10⟩ (fun d hd => funext fun j => by rw [kq_up_c (by omega), kq_up_c (by omega)]) (fun d hd => funext fun j => by rw [kq_up_c (by omega), kq_up_c (by omega)]) ?_ ?_ ?_ ?_ ?_ ?_) (fun d hd => funext fun j => by rw [kq_up_c (by omega), kq_up_c (by omega)]) (by unfold A_row; rw [if_neg (by omega), if_neg (by omega)])
      · rw [kq_up_i (by decide), kq_up_c (by decide), kq_up_i (by decide), kq_up_c (by decide)]; exact q3
      · rw [kq_up_i (by decide), kq_up_c (by decide), kq_up_i (by decide), kq_up_c (by decide)]; exact q4
      · rw [kq_up_s, kq_up_s]
      · funext j; rw [kq_up_c (by decide), kq_up_c (by decide), kq_up_c (by decide), kq_up_c (by decide), q6]
      · funext j; rw [kq_up_c (show (44 : Nat) ≠ 38 by decide), kq_up_c (show (44 : Nat) ≠ 38 by decide), kq_up_of, kq_up_of, q7]
      · funext j; rw [kq_up_c (by decide), kq_up_c (by decide), kq_up_c (by decide), kq_up_c (by decide), q8]
    · skip
      refine ks_bipush (n := 23) S dX5_row_21 rfl (by unfold iv; decide) ?_
      refine ks_istore_n (n := 24) S dX5_row_23 rfl rfl (L' := fun y => [some (kr 38), some (ki v), some (ki y)]) (Nat.le_of_ble_eq_true rfl) (fun _ => rfl) (fun v2_23 hv23 => ?_)
      subst hv23
      refine ks_iload_n (n := 25) S dX5_row_24 rfl rfl ?_
      refine ks_if_eq (n := 28) (tgt := 34) S dX5_row_25 rfl rfl (fun h25 => ?_) (fun h25 => ?_)
      · omega
      refine ks_aload_n (n := 29) S dX5_row_28 rfl rfl ?_
      refine ks_iload_n (n := 30) S dX5_row_29 rfl rfl ?_
      refine kf_v1i (n := 33) S dX5_row_30 rfl ml_X5_38 ym_X5_no (ev_X5_no (by omega)) (by decide) rfl (Nat.le_of_ble_eq_true rfl) ?_
      refine ks_iret S dX5_row_33 ?_
      first | exact qr_r hR (by unfold A_row; (try simp only [← e39]); (repeat' split) <;> first | rfl | omega | (congr 1; omega)) | exact qr_a hR (by unfold A_row; (try simp only [← e39]); (repeat' split) <;> first | rfl | omega | (congr 1; omega))
def A_clear (M : KS) : Int × KS := (M 38 9, kq_up M 38 9 0)
theorem pc_clear (hM : OkM M) (hC : RC σ M) : Ev l yX4_clear cX4_clear 2 (some .int) 0 0 [kr 0] σ (QC (A_clear M) σ) := by
  have R := hC.1
  have ok := hM.1
  have n9 := ok.1
  have n6 := ok.2.1
  have s9 : σ 0 7 = M 38 9 := hC.2.2.2.2.2.1
  refine ev_intro ym_X4_clear.1 (Nat.le_of_ble_eq_true rfl) (fun hv hσ K S => ?_)
  have hv := hv
  show K 0 [some (kr 0), none] [] σ
  refine ks_aload_n (n := 1) S dX4_clear_0 rfl rfl ?_
  refine ks_getI (n := 4) (fi := 7) S dX4_clear_1 rfl fl_X4_44 rfl rfl rfl ?_
  refine ks_istore_n (n := 5) S dX4_clear_4 rfl rfl (L' := fun y => [some (kr 0), some (ki y)]) (Nat.le_of_ble_eq_true rfl) (fun _ => rfl) (fun v1_4 hv4 => ?_)
  subst hv4
  refine ks_aload_n (n := 6) S dX4_clear_5 rfl rfl ?_
  refine ks_iconst (n := 7) S dX4_clear_6 rfl (by unfold iv; decide) ?_
  refine ks_putI (n := 10) (fi := 7) S dX4_clear_7 rfl fw_X4_44 rfl rfl (Or.inl rfl) rfl ?_
  refine ks_iload_n (n := 11) S dX4_clear_10 rfl rfl ?_
  refine ks_iret S dX4_clear_11 ?_
  rw [s9]
  exact qc_mk (hC.noRow FrT.rf) (fun c hc => funext fun j => kq_up_c (by omega)) rfl
theorem pr_clear (hM : OkM M) (hR : RR σ M) : Ev l yX5_clear cX5_clear 2 (some .int) 0 0 [kr 38] σ (QR (A_clear M) σ) := by
  have e39 : σ 39 = M 39 := hR.1
  have ok : OkR (σ 39) := by rw [e39]; exact hM.1
  have n9 := ok.1
  have n6 := ok.2.1
  have s9 : σ 38 9 = M 38 9 := hR.2.2.2.2.1
  refine ev_intro ym_X5_clear.1 (Nat.le_of_ble_eq_true rfl) (fun hv hσ K S => ?_)
  have hv := hv
  show K 0 [some (kr 38), none] [] σ
  refine ks_aload_n (n := 1) S dX5_clear_0 rfl rfl ?_
  refine ks_getI (n := 4) (fi := 9) S dX5_clear_1 rfl fl_X5_188 rfl rfl rfl ?_
  refine ks_istore_n (n := 5) S dX5_clear_4 rfl rfl (L' := fun y => [some (kr 38), some (ki y)]) (Nat.le_of_ble_eq_true rfl) (fun _ => rfl) (fun v1_4 hv4 => ?_)
  subst hv4
  refine ks_aload_n (n := 6) S dX5_clear_5 rfl rfl ?_
  refine ks_iconst (n := 7) S dX5_clear_6 rfl (by unfold iv; decide) ?_
  refine ks_putI (n := 10) (fi := 9) S dX5_clear_7 rfl fw_X5_188 rfl rfl (Or.inl rfl) rfl ?_
  refine ks_iload_n (n := 11) S dX5_clear_10 rfl rfl ?_
  refine ks_iret S dX5_clear_11 ?_
  rw [s9]
  exact qr_mk hR.noRow (fun c hc => funext fun j => kq_up_c (by omega)) rfl
def A_voices (M : KS) (p : Int) : Int × KS := if p = -1 then (m_vo (M 39) 9 (M 39 0).toNat, M) else if ¬ (0 ≤ p ∧ p < M 39 1) then (-1, rfM M (-1)) else (m_vo (M 39) p (M 39 0).toNat, M)
theorem pc_voices {p : Int} (hM : OkM M) (hC : RC σ M) : Ev l yX4_voices cX4_voices 2 (some .int) 1 23 [kr 0, ki p] σ (QC (A_voices M p) σ) := by
  have R := hC.1
  have ok := hM.1
  have n9 := ok.1
  have n6 := ok.2.1
  refine ev_intro ym_X4_voices.1 (Nat.le_of_ble_eq_true rfl) (fun hv hσ K S => ?_)
  have hv := hv
  show K 0 [some (kr 0), some (ki p)] [] σ
  refine ks_iload_n (n := 1) S dX4_voices_0 rfl rfl ?_
  refine ks_iconst (n := 2) S dX4_voices_1 rfl (by unfold iv; decide) ?_
  refine ks_icmp_ne (n := 5) (tgt := 15) S dX4_voices_2 rfl rfl (fun h2 => ?_) (fun h2 => ?_)
  · skip
    refine ks_aload_n (n := 16) S dX4_voices_15 rfl rfl ?_
    refine ks_getr (n := 19) S dX4_voices_16 rfl fl_X4_10 rfl rfl ?_
    refine ks_iload_n (n := 20) S dX4_voices_19 rfl rfl ?_
    refine kf_v1z (n := 23) S dX4_voices_20 rfl ml_X4_99 ym_X0_hasPerson (ev_X0_hasPerson kq_H1 R) (by decide) kq_H1.o (Nat.le_of_ble_eq_true rfl) ?_
    refine ks_if_ne (n := 26) (tgt := 32) S dX4_voices_23 rfl rfl (fun h23 => ?_) (fun h23 => ?_)
    · skip
      simp only [bi_eq, bi_ne] at h23
      refine ks_aload_n (n := 33) S dX4_voices_32 rfl rfl ?_
      refine ks_getr (n := 36) S dX4_voices_33 rfl fl_X4_10 rfl rfl ?_
      refine ks_iload_n (n := 37) S dX4_voices_36 rfl rfl ?_
      refine kf_v1i (n := 40) S dX4_voices_37 rfl ml_X4_217 ym_X0_doorsOfVoice (ev_X0_doorsOfVoice kq_H1 R ok) (by decide) kq_H1.o (Nat.le_of_ble_eq_true rfl) ?_
      refine ks_iret S dX4_voices_40 ?_
      first | exact qc_r hC (by omega) (by unfold A_voices; (repeat' split) <;> first | rfl | omega | (congr 1; omega)) | exact qc_a hC (by unfold A_voices; (repeat' split) <;> first | rfl | omega | (congr 1; omega))
    · skip
      simp only [bi_eq, bi_ne] at h23
      refine ks_aload_n (n := 27) S dX4_voices_26 rfl rfl ?_
      refine ks_iconst (n := 28) S dX4_voices_27 rfl (by unfold iv; decide) ?_
      refine kf_v1i (n := 31) S dX4_voices_28 rfl ml_X4_51 ym_X4_refuse (ev_X4_refuse (by omega)) (by decide) rfl (Nat.le_of_ble_eq_true rfl) ?_
      refine ks_iret S dX4_voices_31 ?_
      first | exact qc_r hC (by omega) (by unfold A_voices; (repeat' split) <;> first | rfl | omega | (congr 1; omega)) | exact qc_a hC (by unfold A_voices; (repeat' split) <;> first | rfl | omega | (congr 1; omega))
  · skip
    refine ks_aload_n (n := 6) S dX4_voices_5 rfl rfl ?_
    refine ks_getr (n := 9) S dX4_voices_6 rfl fl_X4_10 rfl rfl ?_
    refine ks_bipush (n := 11) S dX4_voices_9 rfl (by unfold iv; decide) ?_
    refine kf_v1i (n := 14) S dX4_voices_11 rfl ml_X4_217 ym_X0_doorsOfVoice (ev_X0_doorsOfVoice kq_H1 R ok) (by decide) kq_H1.o (Nat.le_of_ble_eq_true rfl) ?_
    refine ks_iret S dX4_voices_14 ?_
    first | exact qc_r hC (by omega) (by unfold A_voices; (repeat' split) <;> first | rfl | omega | (congr 1; omega)) | exact qc_a hC (by unfold A_voices; (repeat' split) <;> first | rfl | omega | (congr 1; omega))
theorem pr_voices {p : Int} (hM : OkM M) (hR : RR σ M) : Ev l yX5_voices cX5_voices 2 (some .int) 2 44 [kr 38, ki p] σ (QR (A_voices M p) σ) := by
  have e39 : σ 39 = M 39 := hR.1
  have ok : OkR (σ 39) := by rw [e39]; exact hM.1
  have n9 := ok.1
  have n6 := ok.2.1
  refine ev_intro ym_X5_voices.1 (Nat.le_of_ble_eq_true rfl) (fun hv hσ K S => ?_)
  have hv := hv
  show K 0 [some (kr 38), some (ki p)] [] σ
  refine ks_iload_n (n := 1) S dX5_voices_0 rfl rfl ?_
  refine ks_iconst (n := 2) S dX5_voices_1 rfl (by unfold iv; decide) ?_
  refine ks_icmp_ne (n := 5) (tgt := 14) S dX5_voices_2 rfl rfl (fun h2 => ?_) (fun h2 => ?_)
  · skip
    refine ks_aload_n (n := 15) S dX5_voices_14 rfl rfl ?_
    refine ks_iload_n (n := 16) S dX5_voices_15 rfl rfl ?_
    refine kf_v1z (n := 19) S dX5_voices_16 rfl ml_X5_117 ym_X5_isPerson (ev_X5_isPerson n6) (by decide) rfl (Nat.le_of_ble_eq_true rfl) ?_
    refine ks_if_eq (n := 22) (tgt := 30) S dX5_voices_19 rfl rfl (fun h19 => ?_) (fun h19 => ?_)
    · skip
      simp only [bi_eq, bi_ne] at h19
      refine ks_aload_n (n := 31) S dX5_voices_30 rfl rfl ?_
      refine ks_iconst (n := 32) S dX5_voices_31 rfl (by unfold iv; decide) ?_
      refine kf_v1i (n := 35) S dX5_voices_32 rfl ml_X5_38 ym_X5_no (ev_X5_no (by omega)) (by decide) rfl (Nat.le_of_ble_eq_true rfl) ?_
      refine ks_iret S dX5_voices_35 ?_
      first | exact qr_r hR (by unfold A_voices; (try simp only [← e39]); (repeat' split) <;> first | rfl | omega | (congr 1; omega)) | exact qr_a hR (by unfold A_voices; (try simp only [← e39]); (repeat' split) <;> first | rfl | omega | (congr 1; omega))
    · skip
      simp only [bi_eq, bi_ne] at h19
      refine ks_aload_n (n := 23) S dX5_voices_22 rfl rfl ?_
      refine ks_iload_n (n := 24) S dX5_voices_23 rfl rfl ?_
      refine kf_v1i (n := 27) S dX5_voices_24 rfl ml_X5_204 ym_X5_withVoice (ev_X5_withVoice ok) (by decide) rfl (Nat.le_of_ble_eq_true rfl) ?_
      refine ks_goto (n := 35) S dX5_voices_27 rfl ?_
      refine ks_iret S dX5_voices_35 ?_
      first | exact qr_r hR (by unfold A_voices; (try simp only [← e39]); (repeat' split) <;> first | rfl | omega | (congr 1; omega)) | exact qr_a hR (by unfold A_voices; (try simp only [← e39]); (repeat' split) <;> first | rfl | omega | (congr 1; omega))
  · skip
    refine ks_aload_n (n := 6) S dX5_voices_5 rfl rfl ?_
    refine ks_bipush (n := 8) S dX5_voices_6 rfl (by unfold iv; decide) ?_
    refine kf_v1i (n := 11) S dX5_voices_8 rfl ml_X5_204 ym_X5_withVoice (ev_X5_withVoice ok) (by decide) rfl (Nat.le_of_ble_eq_true rfl) ?_
    refine ks_goto (n := 35) S dX5_voices_11 rfl ?_
    refine ks_iret S dX5_voices_35 ?_
    first | exact qr_r hR (by unfold A_voices; (try simp only [← e39]); (repeat' split) <;> first | rfl | omega | (congr 1; omega)) | exact qr_a hR (by unfold A_voices; (try simp only [← e39]); (repeat' split) <;> first | rfl | omega | (congr 1; omega))
def A_image (M : KS) : Int × KS := (M 39 2, kq_up (sr M 41 (M 39)) 38 4 1)
def A_on (M : KS) : Int × KS := if M 38 4 = 0 then (-3, rfM M (-3)) else (M 41 2, mH M (M 41))
theorem pc_image (hM : OkM M) (hC : RC σ M) : Ev l yX4_image cX4_image 1 (some .int) 1 22 [kr 0] σ (QC (A_image M) σ) := by
  have R := hC.1
  have ok := hM.1
  have n9 := ok.1
  have n6 := ok.2.1
  refine ev_intro ym_X4_image.1 (Nat.le_of_ble_eq_true rfl) (fun hv hσ K S => ?_)
  have hv := hv
  show K 0 [some (kr 0)] [] σ
  refine ks_aload_n (n := 1) S dX4_image_0 rfl rfl ?_
  refine ks_getr (n := 4) S dX4_image_1 rfl fl_X4_19 rfl rfl ?_
  refine ks_aload_n (n := 5) S dX4_image_4 rfl rfl ?_
  refine ks_getr (n := 8) S dX4_image_5 rfl fl_X4_10 rfl rfl ?_
  refine ks_v1v (n := 11) S dX4_image_8 rfl ml_X4_66 ym_X0_copyFrom (ev_X0_copyFrom kq_H21 kq_H1 (by decide) R ok) (by decide) kq_H21.o (Nat.le_of_ble_eq_true rfl) (fun τ8 q8 => ?_)
  obtain ⟨-, R2, F2⟩ := q8
  refine ks_aload_n (n := 12) S dX4_image_11 rfl rfl ?_
  refine ks_iconst (n := 13) S dX4_image_12 rfl (by unfold iv; decide) ?_
  refine ks_putI (n := 16) (fi := 3) S dX4_image_13 rfl fw_X4_22 rfl rfl (Or.inr ⟨rfl, by decide⟩) rfl ?_
  refine ks_aload_n (n := 17) S dX4_image_16 rfl rfl ?_
  refine ks_getr (n := 20) S dX4_image_17 rfl fl_X4_10 rfl rfl ?_
  refine ks_getI (n := 23) (fi := 11) S dX4_image_20 rfl fl_X4_133 kq_H1.o rfl rfl ?_
  refine ks_iret S dX4_image_23 ?_
  obtain ⟨h1, h2, h3, h4, h5, h6, h7, h8⟩ := hC
  have z : ∀ d, d ≠ 0 → d < 21 ∨ 30 < d → kq_up τ8 0 3 1 d = σ d := fun d q1 q2 => funext fun j => by rw [kq_up_c q1]; exact F2 d j (by omega)
  have z0 : ∀ j, j ≠ 3 → kq_up τ8 0 3 1 0 j = σ 0 j := fun j q1 => by rw [kq_up_i q1]; exact F2 0 j (by omega)
  have w : ∀ d, d ≠ 38 → d ≠ 41 → kq_up (sr M 41 (M 39)) 38 4 1 d = M d := fun d q1 q2 => funext fun j => by rw [kq_up_c q1, sr_n q2]
  have w38 : ∀ j, j ≠ 4 → kq_up (sr M 41 (M 39)) 38 4 1 38 j = M 38 j := fun j q1 => by rw [kq_up_i q1, sr_n (by decide)]
  rw [z 1 (by decide) (by omega), h1.2.2.1]
  refine qc_mk (N := kq_up (sr M 41 (M 39)) 38 4 1) ⟨?_, ?_, ?_, ?_, ?_, ?_, ?_, ?_⟩ (fun d hd => z d (by omega) (by omega)) rfl
  · show RepH _ 1 (kq_up (sr M 41 (M 39)) 38 4 1 39)
    rw [w 39 (by decide) (by decide)]; exact h1.cells (fun d _ _ => z d (by omega) (by omega))
  · intro _
    show RepH _ 21 (kq_up (sr M 41 (M 39)) 38 4 1 41)
    rw [show kq_up (sr M 41 (M 39)) 38 4 1 41 = M 39 from funext fun j => by rw [kq_up_c (by decide), sr_r]]
    exact R2.cells (fun d _ _ => funext fun j => kq_up_c (by omega))
  · show _ = kq_up (sr M 41 (M 39)) 38 4 1 38 4
    rw [kq_up_s, kq_up_s]
  · show _ = kq_up (sr M 41 (M 39)) 38 4 1 38 8
    rw [w38 8 (by decide), z 31 (by decide) (by omega)]; exact h4
  · show ∀ j, 0 ≤ j → j < kq_up (sr M 41 (M 39)) 38 4 1 38 8 → _ = kq_up (sr M 41 (M 39)) 38 4 1 43 j
    rw [w38 8 (by decide), w 43 (by decide) (by decide), z 32 (by decide) (by omega)]; exact h5
  · show _ = kq_up (sr M 41 (M 39)) 38 4 1 38 9
    rw [w38 9 (by decide), z0 7 (by decide)]; exact h6
  · show ∀ j, 0 ≤ j → j < kq_up (sr M 41 (M 39)) 38 4 1 38 9 → _ = kq_up (sr M 41 (M 39)) 38 4 1 44 j
    rw [w38 9 (by decide), w 44 (by decide) (by decide), z 36 (by decide) (by omega)]; exact h7
  · show ∀ k, 0 ≤ k → k ≤ 6 → _ = kq_up (sr M 41 (M 39)) 38 4 1 45 k
    rw [w 45 (by decide) (by decide), z 37 (by decide) (by omega)]; exact h8
theorem pr_image (hM : OkM M) (hR : RR σ M) : Ev l yX5_image cX5_image 1 (some .int) 1 22 [kr 38] σ (QR (A_image M) σ) := by
  have e39 : σ 39 = M 39 := hR.1
  have ok : OkR (σ 39) := by rw [e39]; exact hM.1
  have n9 := ok.1
  have n6 := ok.2.1
  refine ev_intro ym_X5_image.1 (Nat.le_of_ble_eq_true rfl) (fun hv hσ K S => ?_)
  have hv := hv
  show K 0 [some (kr 38)] [] σ
  refine ks_aload_n (n := 1) S dX5_image_0 rfl rfl ?_
  refine ks_getr (n := 4) S dX5_image_1 rfl fl_X5_9 rfl rfl ?_
  refine ks_aload_n (n := 5) S dX5_image_4 rfl rfl ?_
  refine ks_getr (n := 8) S dX5_image_5 rfl fl_X5_16 rfl rfl ?_
  refine kf_s2v (n := 11) S dX5_image_8 rfl ml_X5_137 ym_X5_copies (ev_X5_copies rfl rfl (by decide) (by rw [e39]; exact hM.2.2.1) (by rw [hR.2.1]; exact hM.2.2.2.1)) (by decide) (Nat.le_of_ble_eq_true rfl) ?_
  refine ks_aload_n (n := 12) S dX5_image_11 rfl rfl ?_
  refine ks_iconst (n := 13) S dX5_image_12 rfl (by unfold iv; decide) ?_
  refine ks_putI (n := 16) (fi := 4) S dX5_image_13 rfl fw_X5_247 rfl rfl (Or.inr ⟨rfl, by decide⟩) rfl ?_
  refine ks_aload_n (n := 17) S dX5_image_16 rfl rfl ?_
  refine ks_getr (n := 20) S dX5_image_17 rfl fl_X5_9 rfl rfl ?_
  refine ks_iconst (n := 21) S dX5_image_20 rfl (by unfold iv; decide) ?_
  refine ks_iaload (n := 22) S dX5_image_21 rfl rfl (by omega) ?_
  refine ks_iret S dX5_image_22 ?_
  obtain ⟨q1, q2, q3, q4, q5, q6, q7, q8, q9, q10⟩ := hR
  have z : ∀ d, d ≠ 38 → d ≠ 41 → kq_up (sr σ 41 (σ 39)) 38 4 1 d = σ d := fun d q1 q2 => funext fun j => by rw [kq_up_c q1, sr_n q2]
  have w : ∀ d, d ≠ 38 → d ≠ 41 → kq_up (sr M 41 (M 39)) 38 4 1 d = M d := fun d q1 q2 => funext fun j => by rw [kq_up_c q1, sr_n q2]
  rw [z 39 (by decide) (by decide)]
  refine qr_mk (N := kq_up (sr M 41 (M 39)) 38 4 1) ⟨?_, ?_, ?_, ?_, ?_, ?_, ?_, ?_, ?_, ?_⟩ (fun d hd => z d (by omega) (by omega)) (by unfold A_image; rw [q1])
  · show _ = kq_up (sr M 41 (M 39)) 38 4 1 39
    rw [z 39 (by decide) (by decide), w 39 (by decide) (by decide)]; exact q1
  · show _ = kq_up (sr M 41 (M 39)) 38 4 1 41
    funext j; rw [kq_up_c (by decide), kq_up_c (by decide), sr_r, sr_r, q1]
  · show _ = kq_up (sr M 41 (M 39)) 38 4 1 38 4
    rw [kq_up_s, kq_up_s]
  · show _ = kq_up (sr M 41 (M 39)) 38 4 1 38 8
    rw [kq_up_i (by decide), kq_up_i (by decide), sr_n (by decide), sr_n (by decide)]; exact q4
  · show _ = kq_up (sr M 41 (M 39)) 38 4 1 38 9
    rw [kq_up_i (by decide), kq_up_i (by decide), sr_n (by decide), sr_n (by decide)]; exact q5
  · show _ = kq_up (sr M 41 (M 39)) 38 4 1 43
    rw [z 43 (by decide) (by decide), w 43 (by decide) (by decide)]; exact q6
  · show _ = kq_up (sr M 41 (M 39)) 38 4 1 44
    rw [z 44 (by decide) (by decide), w 44 (by decide) (by decide)]; exact q7
  · show _ = kq_up (sr M 41 (M 39)) 38 4 1 45
    rw [z 45 (by decide) (by decide), w 45 (by decide) (by decide)]; exact q8
  · rw [z 40 (by decide) (by decide)]; exact q9
  · rw [z 42 (by decide) (by decide)]; exact q10
theorem pc_on (hM : OkM M) (hC : RC σ M) : Ev l yX4_on cX4_on 1 (some .int) 1 22 [kr 0] σ (QC (A_on M) σ) := by
  have R := hC.1
  have ok := hM.1
  have n9 := ok.1
  have n6 := ok.2.1
  have s3 : σ 0 3 = M 38 4 := hC.2.2.1
  refine ev_intro ym_X4_on.1 (Nat.le_of_ble_eq_true rfl) (fun hv hσ K S => ?_)
  have hv := hv
  show K 0 [some (kr 0)] [] σ
  refine ks_aload_n (n := 1) S dX4_on_0 rfl rfl ?_
  refine ks_getI (n := 4) (fi := 3) S dX4_on_1 rfl fl_X4_22 rfl rfl rfl ?_
  refine ks_if_ne (n := 7) (tgt := 14) S dX4_on_4 rfl rfl (fun h4 => ?_) (fun h4 => ?_)
  · skip
    have hi1 : M 38 4 = 1 ∧ OkR (M 41) := by rcases hM.2.2.2.2.1 with h | h; omega; exact ⟨h.1, h.2.1⟩
    have R3 := hC.2.1 hi1.1
    refine ks_aload_n (n := 15) S dX4_on_14 rfl rfl ?_
    refine ks_getr (n := 18) S dX4_on_15 rfl fl_X4_10 rfl rfl ?_
    refine ks_aload_n (n := 19) S dX4_on_18 rfl rfl ?_
    refine ks_getr (n := 22) S dX4_on_19 rfl fl_X4_19 rfl rfl ?_
    refine ks_v1v (n := 25) S dX4_on_22 rfl ml_X4_66 ym_X0_copyFrom (ev_X0_copyFrom kq_H1 kq_H21 (by decide) R3 hi1.2) (by decide) kq_H1.o (Nat.le_of_ble_eq_true rfl) (fun τ22 q22 => ?_)
    obtain ⟨-, R2, F2⟩ := q22
    refine ks_aload_n (n := 26) S dX4_on_25 rfl rfl ?_
    refine ks_getr (n := 29) S dX4_on_26 rfl fl_X4_10 rfl rfl ?_
    refine ks_getI (n := 32) (fi := 11) S dX4_on_29 rfl fl_X4_133 kq_H1.o rfl rfl ?_
    refine ks_iret S dX4_on_32 ?_
    rw [R2.2.2.1]
    exact qc_h hC F2 R2 (by unfold A_on; rw [if_neg (by omega)])
  · skip
    refine ks_aload_n (n := 8) S dX4_on_7 rfl rfl ?_
    refine ks_bipush (n := 10) S dX4_on_8 rfl (by unfold iv; decide) ?_
    refine kf_v1i (n := 13) S dX4_on_10 rfl ml_X4_51 ym_X4_refuse (ev_X4_refuse (by omega)) (by decide) rfl (Nat.le_of_ble_eq_true rfl) ?_
    refine ks_iret S dX4_on_13 ?_
    first | exact qc_r hC (by omega) (by unfold A_on; (repeat' split) <;> first | rfl | omega | (congr 1; omega)) | exact qc_a hC (by unfold A_on; (repeat' split) <;> first | rfl | omega | (congr 1; omega))
theorem pr_on (hM : OkM M) (hR : RR σ M) : Ev l yX5_on cX5_on 1 (some .int) 1 22 [kr 38] σ (QR (A_on M) σ) := by
  have e39 : σ 39 = M 39 := hR.1
  have ok : OkR (σ 39) := by rw [e39]; exact hM.1
  have n9 := ok.1
  have n6 := ok.2.1
  have s3 : σ 38 4 = M 38 4 := hR.2.2.1
  refine ev_intro ym_X5_on.1 (Nat.le_of_ble_eq_true rfl) (fun hv hσ K S => ?_)
  have hv := hv
  show K 0 [some (kr 38)] [] σ
  refine ks_aload_n (n := 1) S dX5_on_0 rfl rfl ?_
  refine ks_getI (n := 4) (fi := 4) S dX5_on_1 rfl fl_X5_247 rfl rfl rfl ?_
  refine ks_if_ne (n := 7) (tgt := 14) S dX5_on_4 rfl rfl (fun h4 => ?_) (fun h4 => ?_)
  · skip
    refine ks_aload_n (n := 15) S dX5_on_14 rfl rfl ?_
    refine ks_getr (n := 18) S dX5_on_15 rfl fl_X5_16 rfl rfl ?_
    refine ks_aload_n (n := 19) S dX5_on_18 rfl rfl ?_
    refine ks_getr (n := 22) S dX5_on_19 rfl fl_X5_9 rfl rfl ?_
    refine kf_s2v (n := 25) S dX5_on_22 rfl ml_X5_137 ym_X5_copies (ev_X5_copies rfl rfl (by decide) (by rw [hR.2.1]; exact hM.2.2.2.1) (by rw [e39]; exact hM.2.2.1)) (by decide) (Nat.le_of_ble_eq_true rfl) ?_
    refine ks_aload_n (n := 26) S dX5_on_25 rfl rfl ?_
    refine ks_getr (n := 29) S dX5_on_26 rfl fl_X5_9 rfl rfl ?_
    refine ks_iconst (n := 30) S dX5_on_29 rfl (by unfold iv; decide) ?_
    refine ks_iaload (n := 31) S dX5_on_30 rfl rfl (by omega) ?_
    refine ks_iret S dX5_on_31 ?_
    rw [sr_r]
    exact qr_h hR (by unfold A_on; rw [if_neg (by omega), hR.2.1])
  · skip
    refine ks_aload_n (n := 8) S dX5_on_7 rfl rfl ?_
    refine ks_bipush (n := 10) S dX5_on_8 rfl (by unfold iv; decide) ?_
    refine kf_v1i (n := 13) S dX5_on_10 rfl ml_X5_38 ym_X5_no (ev_X5_no (by omega)) (by decide) rfl (Nat.le_of_ble_eq_true rfl) ?_
    refine ks_iret S dX5_on_13 ?_
    first | exact qr_r hR (by unfold A_on; (try simp only [← e39]); (repeat' split) <;> first | rfl | omega | (congr 1; omega)) | exact qr_a hR (by unfold A_on; (try simp only [← e39]); (repeat' split) <;> first | rfl | omega | (congr 1; omega))
end PUB2

