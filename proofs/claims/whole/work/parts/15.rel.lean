/-! the whole state: M is the model's (the cells of the reference that count), RC: the class holds it, RR: the reference does -/
def OkM (M : KS) : Prop := OkR (M 39) ∧ M 39 2 ≤ 999 ∧ Zr (M 39) ∧ Zr (M 41) ∧ (M 38 4 = 0 ∨ (M 38 4 = 1 ∧ OkR (M 41) ∧ M 41 2 ≤ 999)) ∧ (0 ≤ M 38 8 ∧ M 38 8 ≤ 96) ∧ (∀ j, 0 ≤ j → j < M 38 8 → 0 ≤ M 43 j ∧ M 43 j ≤ 255) ∧ (0 ≤ M 38 9 ∧ M 38 9 ≤ 16) ∧ ∀ j, 0 ≤ j → j < M 38 9 → 0 ≤ M 44 j ∧ M 44 j ≤ 99
def RC (σ M : KS) : Prop := RepH σ 1 (M 39) ∧ (M 38 4 = 1 → RepH σ 21 (M 41)) ∧ σ 0 3 = M 38 4 ∧ σ 31 1 = M 38 8 ∧ (∀ j, 0 ≤ j → j < M 38 8 → σ 32 j = M 43 j) ∧ σ 0 7 = M 38 9 ∧ (∀ j, 0 ≤ j → j < M 38 9 → σ 36 j = M 44 j) ∧ ∀ k, 0 ≤ k → k ≤ 6 → σ 37 k = M 45 k
def RR (σ M : KS) : Prop := σ 39 = M 39 ∧ σ 41 = M 41 ∧ σ 38 4 = M 38 4 ∧ σ 38 8 = M 38 8 ∧ σ 38 9 = M 38 9 ∧ σ 43 = M 43 ∧ σ 44 = M 44 ∧ σ 45 = M 45 ∧ Zr (σ 40) ∧ Zr (σ 42)
def QC (A : Int × KS) (σ : KS) : Option KV → KS → Prop := fun r τ => r = some (ki A.1) ∧ RC τ A.2 ∧ ∀ c, 38 ≤ c → τ c = σ c
def QR (A : Int × KS) (σ : KS) : Option KV → KS → Prop := fun r τ => r = some (ki A.1) ∧ RR τ A.2 ∧ ∀ c, c < 38 → τ c = σ c
def QCj (A : Int × KS) (σ : KS) : Option KV → KS → Prop := fun r τ => r = some (kj A.1) ∧ RC τ A.2 ∧ ∀ c, 38 ≤ c → τ c = σ c
def QRj (A : Int × KS) (σ : KS) : Option KV → KS → Prop := fun r τ => r = some (kj A.1) ∧ RR τ A.2 ∧ ∀ c, c < 38 → τ c = σ c
/-- a refusal is counted -/
def rfM (M : KS) (k : Int) : KS := kq_up M 45 (-k) (wr (M 45 (-k) + 1))
theorem rfM_n {M : KS} {k : Int} {c : Nat} (h : c ≠ 45) : rfM M k c = M c := by funext j; exact kq_up_c h
/-- what a thought may change in the class: cells 11 .. 20, 33 .. 35 -/
def FrT (σ τ : KS) : Prop := ∀ c, (c < 11 ∨ (20 < c ∧ c < 33) ∨ 35 < c) → τ c = σ c
theorem FrT.rf {σ : KS} : FrT σ σ := fun _ _ => rfl
theorem FrT.tr {σ τ ρ : KS} (h : FrT σ τ) (h2 : FrT τ ρ) : FrT σ ρ := fun c hc => (h2 c hc).trans (h c hc)
theorem FrT.ofH {σ τ : KS} (h : FrH 11 σ τ) : FrT σ τ := fun c hc => funext fun i => h c i (by omega)
theorem FrT.up {σ τ : KS} {d : Nat} {i v : Int} (h : FrT σ τ) (hd : (11 ≤ d ∧ d ≤ 20) ∨ (33 ≤ d ∧ d ≤ 35)) : FrT σ (kq_up τ d i v) := fun c hc => by
  rw [← h c hc]; funext j; exact kq_up_c (by omega)
theorem RepH.cells {σ τ : KS} {c : Nat} {a : RW} (h : RepH σ c a) (he : ∀ d, c ≤ d → d ≤ c + 9 → τ d = σ d) : RepH τ c a := by
  unfold RepH
  rw [he c (by omega) (by omega), he (c + 1) (by omega) (by omega), he (c + 2) (by omega) (by omega), he (c + 3) (by omega) (by omega), he (c + 4) (by omega) (by omega), he (c + 5) (by omega) (by omega), he (c + 6) (by omega) (by omega), he (c + 7) (by omega) (by omega), he (c + 8) (by omega) (by omega), he (c + 9) (by omega) (by omega)]
  exact h
theorem RC.fr {σ τ M : KS} (h : RC σ M) (ht : FrT σ τ) : RC τ M := by
  obtain ⟨h1, h2, h3, h4, h5, h6, h7, h8⟩ := h
  refine ⟨h1.cells (fun d _ _ => ht d (by omega)), fun hi => (h2 hi).cells (fun d _ _ => ht d (by omega)), ?_, ?_, ?_, ?_, ?_, ?_⟩
  · rw [ht 0 (by omega)]; exact h3
  · rw [ht 31 (by omega)]; exact h4
  · rw [ht 32 (by omega)]; exact h5
  · rw [ht 0 (by omega)]; exact h6
  · rw [ht 36 (by omega)]; exact h7
  · rw [ht 37 (by omega)]; exact h8
theorem RC.ref {σ M : KS} {k : Int} (h : RC σ M) (hk : -6 ≤ k ∧ k ≤ -1) : RC (kq_up σ 37 (-k) (wr (σ 37 (-k) + 1))) (rfM M k) := by
  obtain ⟨h1, h2, h3, h4, h5, h6, h7, h8⟩ := h
  have z : ∀ c, c ≠ 37 → kq_up σ 37 (-k) (wr (σ 37 (-k) + 1)) c = σ c := fun c hc => funext fun j => kq_up_c hc
  refine ⟨?_, ?_, ?_, ?_, ?_, ?_, ?_, ?_⟩
  · rw [rfM_n (by decide)]; exact h1.cells (fun d _ _ => z d (by omega))
  · rw [rfM_n (by decide), rfM_n (by decide)]; exact fun hi => (h2 hi).cells (fun d _ _ => z d (by omega))
  · rw [rfM_n (by decide), z 0 (by decide)]; exact h3
  · rw [rfM_n (by decide), z 31 (by decide)]; exact h4
  · rw [rfM_n (by decide), rfM_n (by decide), z 32 (by decide)]; exact h5
  · rw [rfM_n (by decide), z 0 (by decide)]; exact h6
  · rw [rfM_n (by decide), rfM_n (by decide), z 36 (by decide)]; exact h7
  · intro q q0 q1
    unfold rfM
    rw [kq_up_of, kq_up_of, h8 q q0 q1, h8 (-k) (by omega) (by omega)]
theorem RR.ref {σ M : KS} {k : Int} (h : RR σ M) : RR (kq_up σ 45 (-k) (wr (σ 45 (-k) + 1))) (rfM M k) := by
  obtain ⟨h1, h2, h3, h4, h5, h6, h7, h8, h9, h10⟩ := h
  have z : ∀ c, c ≠ 45 → kq_up σ 45 (-k) (wr (σ 45 (-k) + 1)) c = σ c := fun c hc => funext fun j => kq_up_c hc
  refine ⟨?_, ?_, ?_, ?_, ?_, ?_, ?_, ?_, ?_, ?_⟩
  · rw [rfM_n (by decide), z 39 (by decide)]; exact h1
  · rw [rfM_n (by decide), z 41 (by decide)]; exact h2
  · rw [rfM_n (by decide), z 38 (by decide)]; exact h3
  · rw [rfM_n (by decide), z 38 (by decide)]; exact h4
  · rw [rfM_n (by decide), z 38 (by decide)]; exact h5
  · rw [rfM_n (by decide), z 43 (by decide)]; exact h6
  · rw [rfM_n (by decide), z 44 (by decide)]; exact h7
  · unfold rfM
    funext q
    rw [kq_up_of, kq_up_of, h8]
  · rw [z 40 (by decide)]; exact h9
  · rw [z 42 (by decide)]; exact h10
theorem OkM.ref {M : KS} {k : Int} (h : OkM M) : OkM (rfM M k) := by
  unfold OkM
  rw [rfM_n (show (39 : Nat) ≠ 45 by decide), rfM_n (show (41 : Nat) ≠ 45 by decide), rfM_n (show (38 : Nat) ≠ 45 by decide), rfM_n (show (43 : Nat) ≠ 45 by decide), rfM_n (show (44 : Nat) ≠ 45 by decide)]
  exact h
/-- what a question may change in the reference: m, place, numbers, toll, seed -/
def FrQ (σ τ : KS) : Prop := (∀ c, c < 38 ∨ c = 39 ∨ c = 41 ∨ c = 42 ∨ c = 43 ∨ c = 44 ∨ c = 45 → τ c = σ c) ∧ τ 38 4 = σ 38 4 ∧ τ 38 8 = σ 38 8 ∧ τ 38 9 = σ 38 9 ∧ Zr (τ 40)
theorem FrQ.rf {σ : KS} (h : Zr (σ 40)) : FrQ σ σ := ⟨fun _ _ => rfl, rfl, rfl, rfl, h⟩
theorem FrQ.tr {σ τ ρ : KS} (h : FrQ σ τ) (g : FrQ τ ρ) : FrQ σ ρ := ⟨fun c hc => (g.1 c hc).trans (h.1 c hc), g.2.1.trans h.2.1, g.2.2.1.trans h.2.2.1, g.2.2.2.1.trans h.2.2.2.1, g.2.2.2.2⟩
theorem FrQ.m {σ : KS} {a : RW} (h : Zr a) : FrQ σ (sr σ 40 a) := ⟨fun c hc => sr_n (by omega), by rw [sr_n (by decide)], by rw [sr_n (by decide)], by rw [sr_n (by decide)], by rw [sr_r]; exact h⟩
theorem FrQ.cell {σ : KS} {d : Nat} {a : RW} (h : Zr (σ 40)) (hd : d = 46 ∨ d = 47) : FrQ σ (sr σ d a) := ⟨fun c hc => sr_n (by omega), by rw [sr_n (by omega)], by rw [sr_n (by omega)], by rw [sr_n (by omega)], by rw [sr_n (by omega)]; exact h⟩
theorem FrQ.fld {σ : KS} {i v : Int} (h : Zr (σ 40)) (hd : i = 10 ∨ i = 13) : FrQ σ (kq_up σ 38 i v) := ⟨fun c hc => funext fun j => kq_up_c (by omega), kq_up_i (by omega), kq_up_i (by omega), kq_up_i (by omega), by rw [show kq_up σ 38 i v 40 = σ 40 from funext fun j => kq_up_c (by decide)]; exact h⟩
theorem RR.fr {σ τ M : KS} (h : RR σ M) (hq : FrQ σ τ) : RR τ M := by
  obtain ⟨h1, h2, h3, h4, h5, h6, h7, h8, h9, h10⟩ := h
  obtain ⟨q1, q2, q3, q4, q5⟩ := hq
  exact ⟨by rw [q1 39 (by omega)]; exact h1, by rw [q1 41 (by omega)]; exact h2, by rw [q2]; exact h3, by rw [q3]; exact h4, by rw [q4]; exact h5, by rw [q1 43 (by omega)]; exact h6, by rw [q1 44 (by omega)]; exact h7, by rw [q1 45 (by omega)]; exact h8, q5, by rw [q1 42 (by omega)]; exact h10⟩
theorem qc_a {σ M : KS} {A : Int × KS} {x : Int} (h : RC σ M) (e : A = (x, M)) : QC A σ (some (ki x)) σ := by rw [e]; exact ⟨rfl, h, fun _ _ => rfl⟩
theorem qc_t {σ τ M : KS} {A : Int × KS} {x : Int} (h : RC σ M) (ht : FrT σ τ) (e : A = (x, M)) : QC A σ (some (ki x)) τ := by rw [e]; exact ⟨rfl, h.fr ht, fun c hc => ht c (by omega)⟩
theorem qc_r {σ M : KS} {A : Int × KS} {k : Int} (h : RC σ M) (hk : -6 ≤ k ∧ k ≤ -1) (e : A = (k, rfM M k)) : QC A σ (some (ki k)) (kq_up σ 37 (-k) (wr (σ 37 (-k) + 1))) := by
  rw [e]; exact ⟨rfl, h.ref hk, fun c hc => funext fun j => kq_up_c (by omega)⟩
theorem qc_rt {σ τ M : KS} {A : Int × KS} {k : Int} (h : RC σ M) (ht : FrT σ τ) (hk : -6 ≤ k ∧ k ≤ -1) (e : A = (k, rfM M k)) : QC A σ (some (ki k)) (kq_up τ 37 (-k) (wr (τ 37 (-k) + 1))) := by
  rw [e]; exact ⟨rfl, (h.fr ht).ref hk, fun c hc => by rw [show kq_up τ 37 (-k) (wr (τ 37 (-k) + 1)) c = τ c from funext fun j => kq_up_c (by omega)]; exact ht c (by omega)⟩
theorem qr_a {σ M : KS} {A : Int × KS} {x : Int} (h : RR σ M) (e : A = (x, M)) : QR A σ (some (ki x)) σ := by rw [e]; exact ⟨rfl, h, fun _ _ => rfl⟩
theorem qr_t {σ τ M : KS} {A : Int × KS} {x : Int} (h : RR σ M) (hq : FrQ σ τ) (e : A = (x, M)) : QR A σ (some (ki x)) τ := by rw [e]; exact ⟨rfl, h.fr hq, fun c hc => hq.1 c (by omega)⟩
theorem qr_r {σ M : KS} {A : Int × KS} {k : Int} (h : RR σ M) (e : A = (k, rfM M k)) : QR A σ (some (ki k)) (kq_up σ 45 (-k) (wr (σ 45 (-k) + 1))) := by
  rw [e]; exact ⟨rfl, h.ref, fun c hc => funext fun j => kq_up_c (by omega)⟩
/-- the house becomes another -/
def mH (M : KS) (a : RW) : KS := sr M 39 a
theorem RC.house {σ τ M : KS} {a : RW} (h : RC σ M) (hf : FrH 1 σ τ) (hR : RepH τ 1 a) : RC τ (mH M a) := by
  obtain ⟨h1, h2, h3, h4, h5, h6, h7, h8⟩ := h
  have z : ∀ c, c < 1 ∨ 10 < c → τ c = σ c := fun c hc => funext fun j => hf c j (by omega)
  unfold mH
  have w : ∀ c, c ≠ 39 → sr M 39 a c = M c := fun c hc => sr_n hc
  refine ⟨by rw [sr_r]; exact hR, ?_, ?_, ?_, ?_, ?_, ?_, ?_⟩
  · rw [w 38 (by decide), w 41 (by decide)]; exact fun hi => (h2 hi).cells (fun d _ _ => z d (by omega))
  · rw [w 38 (by decide), z 0 (by omega)]; exact h3
  · rw [w 38 (by decide), z 31 (by omega)]; exact h4
  · rw [w 38 (by decide), w 43 (by decide), z 32 (by omega)]; exact h5
  · rw [w 38 (by decide), z 0 (by omega)]; exact h6
  · rw [w 38 (by decide), w 44 (by decide), z 36 (by omega)]; exact h7
  · rw [w 45 (by decide), z 37 (by omega)]; exact h8
theorem RR.house {σ M : KS} {a : RW} (h : RR σ M) : RR (sr σ 39 a) (mH M a) := by
  obtain ⟨h1, h2, h3, h4, h5, h6, h7, h8, h9, h10⟩ := h
  unfold mH RR
  rw [sr_r, sr_r]
  simp only [sr_n (show (41 : Nat) ≠ 39 by decide), sr_n (show (38 : Nat) ≠ 39 by decide), sr_n (show (43 : Nat) ≠ 39 by decide), sr_n (show (44 : Nat) ≠ 39 by decide), sr_n (show (45 : Nat) ≠ 39 by decide), sr_n (show (40 : Nat) ≠ 39 by decide), sr_n (show (42 : Nat) ≠ 39 by decide)]
  exact ⟨trivial, h2, h3, h4, h5, h6, h7, h8, h9, h10⟩
theorem OkM.house {M : KS} {a : RW} (h : OkM M) (ok : OkR a) (h2 : a 2 ≤ 999) (hz : Zr a) : OkM (mH M a) := by
  obtain ⟨h1, -, h3, h4⟩ := h
  unfold mH OkM
  rw [sr_r]
  simp only [sr_n (show (41 : Nat) ≠ 39 by decide), sr_n (show (38 : Nat) ≠ 39 by decide), sr_n (show (43 : Nat) ≠ 39 by decide), sr_n (show (44 : Nat) ≠ 39 by decide)]
  exact ⟨ok, h2, hz, h4⟩
theorem qc_h {σ τ M : KS} {A : Int × KS} {x : Int} {a : RW} (h : RC σ M) (hf : FrH 1 σ τ) (hR : RepH τ 1 a) (e : A = (x, mH M a)) : QC A σ (some (ki x)) τ := by
  rw [e]; exact ⟨rfl, h.house hf hR, fun c hc => funext fun j => hf c j (by omega)⟩
theorem qr_h {σ M : KS} {A : Int × KS} {x : Int} {a : RW} (h : RR σ M) (e : A = (x, mH M a)) : QR A σ (some (ki x)) (sr σ 39 a) := by
  rw [e]; exact ⟨rfl, h.house, fun c hc => sr_n (by omega)⟩
theorem m_out (v a b : Int) : (v < a ∧ (if v < a then (-4 : Int) else if b < v then -6 else 0) = -4) ∨ (a ≤ v ∧ b < v ∧ (if v < a then (-4 : Int) else if b < v then -6 else 0) = -6) ∨ (a ≤ v ∧ v ≤ b ∧ (if v < a then (-4 : Int) else if b < v then -6 else 0) = 0) := by
  (repeat' split) <;> omega
section REL1
variable {l : Launch} {σ M : KS}
theorem ev_X4_refuse {k : Int} (h : -6 ≤ k ∧ k ≤ -1) : Ev l yX4_refuse cX4_refuse 2 (some .int) 0 0 [kr 0, ki k] σ (Rt (some (ki k)) (kq_up σ 37 (-k) (wr (σ 37 (-k) + 1)))) := by
  refine ev_intro ym_X4_refuse.1 (Nat.le_of_ble_eq_true rfl) (fun hv hσ K S => ?_)
  have hv := hv
  show K 0 [some (kr 0), some (ki k)] [] σ
  refine ks_iload_n (n := 1) S dX4_refuse_0 rfl rfl ?_
  refine ks_if_ge (n := 4) (tgt := 21) S dX4_refuse_1 rfl rfl (fun h1 => ?_) (fun h1 => ?_)
  · omega
  refine ks_iload_n (n := 5) S dX4_refuse_4 rfl rfl ?_
  refine ks_bipush (n := 7) S dX4_refuse_5 rfl (by unfold iv; decide) ?_
  refine ks_icmp_lt (n := 10) (tgt := 21) S dX4_refuse_7 rfl rfl (fun h7 => ?_) (fun h7 => ?_)
  · omega
  refine ks_aload_n (n := 11) S dX4_refuse_10 rfl rfl ?_
  refine ks_getr (n := 14) S dX4_refuse_11 rfl fl_X4_48 rfl rfl ?_
  refine ks_iload_n (n := 15) S dX4_refuse_14 rfl rfl ?_
  refine ks_ineg (n := 16) S dX4_refuse_15 rfl (by omega) ?_
  refine ks_dup2 (n := 17) S dX4_refuse_16 rfl rfl rfl ?_
  refine ks_iaload (n := 18) S dX4_refuse_17 rfl rfl (by omega) ?_
  refine ks_iconst (n := 19) S dX4_refuse_18 rfl (by unfold iv; decide) ?_
  refine ks_iaddW (n := 20) S dX4_refuse_19 rfl ?_
  refine ks_iastore (n := 21) S dX4_refuse_20 rfl rfl (by omega) ?_
  refine ks_iload_n (n := 22) S dX4_refuse_21 rfl rfl ?_
  refine ks_iret S dX4_refuse_22 ?_
  exact rt_r
theorem ev_X4_outside {v a b : Int} : Ev l yX4_outside cX4_outside 3 (some .int) 0 0 [ki v, ki a, ki b] σ (Rt (some (ki (if v < a then -4 else if b < v then -6 else 0))) σ) := by
  refine ev_intro ym_X4_outside.1 (Nat.le_of_ble_eq_true rfl) (fun hv hσ K S => ?_)
  have hv := hv
  show K 0 [some (ki v), some (ki a), some (ki b)] [] σ
  refine ks_iload_n (n := 1) S dX4_outside_0 rfl rfl ?_
  refine ks_iload_n (n := 2) S dX4_outside_1 rfl rfl ?_
  refine ks_icmp_ge (n := 5) (tgt := 8) S dX4_outside_2 rfl rfl (fun h2 => ?_) (fun h2 => ?_)
  · skip
    refine ks_iload_n (n := 9) S dX4_outside_8 rfl rfl ?_
    refine ks_iload_n (n := 10) S dX4_outside_9 rfl rfl ?_
    refine ks_icmp_le (n := 13) (tgt := 18) S dX4_outside_10 rfl rfl (fun h10 => ?_) (fun h10 => ?_)
    · skip
      refine ks_iconst (n := 19) S dX4_outside_18 rfl (by unfold iv; decide) ?_
      refine ks_iret S dX4_outside_19 ?_
      exact rt_e (by (repeat' split) <;> omega)
    · skip
      refine ks_bipush (n := 15) S dX4_outside_13 rfl (by unfold iv; decide) ?_
      refine ks_goto (n := 19) S dX4_outside_15 rfl ?_
      refine ks_iret S dX4_outside_19 ?_
      exact rt_e (by (repeat' split) <;> omega)
  · skip
    refine ks_bipush (n := 7) S dX4_outside_5 rfl (by unfold iv; decide) ?_
    refine ks_iret S dX4_outside_7 ?_
    exact rt_e (by (repeat' split) <;> omega)
end REL1

