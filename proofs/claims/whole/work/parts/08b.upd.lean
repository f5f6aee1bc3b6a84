/-! one number of a House changes, and so does the row -/
theorem RepH.uD0 {σ : KS} {c : Nat} {a : RW} {d v : Int} (hR : RepH σ c a) (hd : 0 ≤ d ∧ d < 9) : RepH (kq_up σ (c + 1) d v) c (ru a (3 + 6 * d + 0) v) := by
  obtain ⟨h1, h2, h3, h4, h5⟩ := hR
  refine ⟨by rw [kq_up_c (by omega), ru_n (by omega)]; exact h1, by rw [kq_up_c (by omega), ru_n (by omega)]; exact h2, by rw [kq_up_c (by omega), ru_n (by omega)]; exact h3, fun q q0 q1 => ?_, fun q q0 q1 => ?_⟩
  · rw [ru_n (by omega)] at q1
    obtain ⟨e1, e2, e3, e4, e5, e6⟩ := h4 q q0 q1
    unfold aD at e1 e2 e3 e4 e5 e6 ⊢
    by_cases hq : q = d
    · subst hq
      refine ⟨?_, ?_, ?_, ?_, ?_, ?_⟩ <;> first | rw [kq_up_s, ru_s] | (rw [kq_up_c (by omega), ru_n (by omega)]; assumption)
    · refine ⟨?_, ?_, ?_, ?_, ?_, ?_⟩ <;> (rw [kq_up_i hq, ru_n (by omega)]; assumption)
  · rw [ru_n (by omega)] at q1
    obtain ⟨e1, e2, e3⟩ := h5 q q0 q1
    unfold aP at e1 e2 e3 ⊢
    refine ⟨?_, ?_, ?_⟩ <;> (rw [kq_up_c (by omega), ru_n (by omega)]; assumption)
theorem RepH.uD1 {σ : KS} {c : Nat} {a : RW} {d v : Int} (hR : RepH σ c a) (hd : 0 ≤ d ∧ d < 9) : RepH (kq_up σ (c + 2) d v) c (ru a (3 + 6 * d + 1) v) := by
  obtain ⟨h1, h2, h3, h4, h5⟩ := hR
  refine ⟨by rw [kq_up_c (by omega), ru_n (by omega)]; exact h1, by rw [kq_up_c (by omega), ru_n (by omega)]; exact h2, by rw [kq_up_c (by omega), ru_n (by omega)]; exact h3, fun q q0 q1 => ?_, fun q q0 q1 => ?_⟩
  · rw [ru_n (by omega)] at q1
    obtain ⟨e1, e2, e3, e4, e5, e6⟩ := h4 q q0 q1
    unfold aD at e1 e2 e3 e4 e5 e6 ⊢
    by_cases hq : q = d
    · subst hq
      refine ⟨?_, ?_, ?_, ?_, ?_, ?_⟩ <;> first | rw [kq_up_s, ru_s] | (rw [kq_up_c (by omega), ru_n (by omega)]; assumption)
    · refine ⟨?_, ?_, ?_, ?_, ?_, ?_⟩ <;> (rw [kq_up_i hq, ru_n (by omega)]; assumption)
  · rw [ru_n (by omega)] at q1
    obtain ⟨e1, e2, e3⟩ := h5 q q0 q1
    unfold aP at e1 e2 e3 ⊢
    refine ⟨?_, ?_, ?_⟩ <;> (rw [kq_up_c (by omega), ru_n (by omega)]; assumption)
theorem RepH.uD2 {σ : KS} {c : Nat} {a : RW} {d v : Int} (hR : RepH σ c a) (hd : 0 ≤ d ∧ d < 9) : RepH (kq_up σ (c + 3) d v) c (ru a (3 + 6 * d + 2) v) := by
  obtain ⟨h1, h2, h3, h4, h5⟩ := hR
  refine ⟨by rw [kq_up_c (by omega), ru_n (by omega)]; exact h1, by rw [kq_up_c (by omega), ru_n (by omega)]; exact h2, by rw [kq_up_c (by omega), ru_n (by omega)]; exact h3, fun q q0 q1 => ?_, fun q q0 q1 => ?_⟩
  · rw [ru_n (by omega)] at q1
    obtain ⟨e1, e2, e3, e4, e5, e6⟩ := h4 q q0 q1
    unfold aD at e1 e2 e3 e4 e5 e6 ⊢
    by_cases hq : q = d
    · subst hq
      refine ⟨?_, ?_, ?_, ?_, ?_, ?_⟩ <;> first | rw [kq_up_s, ru_s] | (rw [kq_up_c (by omega), ru_n (by omega)]; assumption)
    · refine ⟨?_, ?_, ?_, ?_, ?_, ?_⟩ <;> (rw [kq_up_i hq, ru_n (by omega)]; assumption)
  · rw [ru_n (by omega)] at q1
    obtain ⟨e1, e2, e3⟩ := h5 q q0 q1
    unfold aP at e1 e2 e3 ⊢
    refine ⟨?_, ?_, ?_⟩ <;> (rw [kq_up_c (by omega), ru_n (by omega)]; assumption)
theorem RepH.uD3 {σ : KS} {c : Nat} {a : RW} {d v : Int} (hR : RepH σ c a) (hd : 0 ≤ d ∧ d < 9) : RepH (kq_up σ (c + 4) d v) c (ru a (3 + 6 * d + 3) v) := by
  obtain ⟨h1, h2, h3, h4, h5⟩ := hR
  refine ⟨by rw [kq_up_c (by omega), ru_n (by omega)]; exact h1, by rw [kq_up_c (by omega), ru_n (by omega)]; exact h2, by rw [kq_up_c (by omega), ru_n (by omega)]; exact h3, fun q q0 q1 => ?_, fun q q0 q1 => ?_⟩
  · rw [ru_n (by omega)] at q1
    obtain ⟨e1, e2, e3, e4, e5, e6⟩ := h4 q q0 q1
    unfold aD at e1 e2 e3 e4 e5 e6 ⊢
    by_cases hq : q = d
    · subst hq
      refine ⟨?_, ?_, ?_, ?_, ?_, ?_⟩ <;> first | rw [kq_up_s, ru_s] | (rw [kq_up_c (by omega), ru_n (by omega)]; assumption)
    · refine ⟨?_, ?_, ?_, ?_, ?_, ?_⟩ <;> (rw [kq_up_i hq, ru_n (by omega)]; assumption)
  · rw [ru_n (by omega)] at q1
    obtain ⟨e1, e2, e3⟩ := h5 q q0 q1
    unfold aP at e1 e2 e3 ⊢
    refine ⟨?_, ?_, ?_⟩ <;> (rw [kq_up_c (by omega), ru_n (by omega)]; assumption)
theorem RepH.uD4 {σ : KS} {c : Nat} {a : RW} {d v : Int} (hR : RepH σ c a) (hd : 0 ≤ d ∧ d < 9) : RepH (kq_up σ (c + 5) d v) c (ru a (3 + 6 * d + 4) v) := by
  obtain ⟨h1, h2, h3, h4, h5⟩ := hR
  refine ⟨by rw [kq_up_c (by omega), ru_n (by omega)]; exact h1, by rw [kq_up_c (by omega), ru_n (by omega)]; exact h2, by rw [kq_up_c (by omega), ru_n (by omega)]; exact h3, fun q q0 q1 => ?_, fun q q0 q1 => ?_⟩
  · rw [ru_n (by omega)] at q1
    obtain ⟨e1, e2, e3, e4, e5, e6⟩ := h4 q q0 q1
    unfold aD at e1 e2 e3 e4 e5 e6 ⊢
    by_cases hq : q = d
    · subst hq
      refine ⟨?_, ?_, ?_, ?_, ?_, ?_⟩ <;> first | rw [kq_up_s, ru_s] | (rw [kq_up_c (by omega), ru_n (by omega)]; assumption)
    · refine ⟨?_, ?_, ?_, ?_, ?_, ?_⟩ <;> (rw [kq_up_i hq, ru_n (by omega)]; assumption)
  · rw [ru_n (by omega)] at q1
    obtain ⟨e1, e2, e3⟩ := h5 q q0 q1
    unfold aP at e1 e2 e3 ⊢
    refine ⟨?_, ?_, ?_⟩ <;> (rw [kq_up_c (by omega), ru_n (by omega)]; assumption)
theorem RepH.uD5 {σ : KS} {c : Nat} {a : RW} {d v : Int} (hR : RepH σ c a) (hd : 0 ≤ d ∧ d < 9) : RepH (kq_up σ (c + 6) d v) c (ru a (3 + 6 * d + 5) v) := by
  obtain ⟨h1, h2, h3, h4, h5⟩ := hR
  refine ⟨by rw [kq_up_c (by omega), ru_n (by omega)]; exact h1, by rw [kq_up_c (by omega), ru_n (by omega)]; exact h2, by rw [kq_up_c (by omega), ru_n (by omega)]; exact h3, fun q q0 q1 => ?_, fun q q0 q1 => ?_⟩
  · rw [ru_n (by omega)] at q1
    obtain ⟨e1, e2, e3, e4, e5, e6⟩ := h4 q q0 q1
    unfold aD at e1 e2 e3 e4 e5 e6 ⊢
    by_cases hq : q = d
    · subst hq
      refine ⟨?_, ?_, ?_, ?_, ?_, ?_⟩ <;> first | rw [kq_up_s, ru_s] | (rw [kq_up_c (by omega), ru_n (by omega)]; assumption)
    · refine ⟨?_, ?_, ?_, ?_, ?_, ?_⟩ <;> (rw [kq_up_i hq, ru_n (by omega)]; assumption)
  · rw [ru_n (by omega)] at q1
    obtain ⟨e1, e2, e3⟩ := h5 q q0 q1
    unfold aP at e1 e2 e3 ⊢
    refine ⟨?_, ?_, ?_⟩ <;> (rw [kq_up_c (by omega), ru_n (by omega)]; assumption)
theorem RepH.uP0 {σ : KS} {c : Nat} {a : RW} {p v : Int} (hR : RepH σ c a) (ha : a 0 ≤ 9) (hp : 0 ≤ p) : RepH (kq_up σ (c + 7) p v) c (ru a (57 + 3 * p + 0) v) := by
  obtain ⟨h1, h2, h3, h4, h5⟩ := hR
  refine ⟨by rw [kq_up_c (by omega), ru_n (by omega)]; exact h1, by rw [kq_up_c (by omega), ru_n (by omega)]; exact h2, by rw [kq_up_c (by omega), ru_n (by omega)]; exact h3, fun q q0 q1 => ?_, fun q q0 q1 => ?_⟩
  · rw [ru_n (by omega)] at q1
    obtain ⟨e1, e2, e3, e4, e5, e6⟩ := h4 q q0 q1
    unfold aD at e1 e2 e3 e4 e5 e6 ⊢
    refine ⟨?_, ?_, ?_, ?_, ?_, ?_⟩ <;> (rw [kq_up_c (by omega), ru_n (by omega)]; assumption)
  · rw [ru_n (by omega)] at q1
    obtain ⟨e1, e2, e3⟩ := h5 q q0 q1
    unfold aP at e1 e2 e3 ⊢
    by_cases hq : q = p
    · subst hq
      refine ⟨?_, ?_, ?_⟩ <;> first | rw [kq_up_s, ru_s] | (rw [kq_up_c (by omega), ru_n (by omega)]; assumption)
    · refine ⟨?_, ?_, ?_⟩ <;> (rw [kq_up_i hq, ru_n (by omega)]; assumption)
theorem RepH.uP1 {σ : KS} {c : Nat} {a : RW} {p v : Int} (hR : RepH σ c a) (ha : a 0 ≤ 9) (hp : 0 ≤ p) : RepH (kq_up σ (c + 8) p v) c (ru a (57 + 3 * p + 1) v) := by
  obtain ⟨h1, h2, h3, h4, h5⟩ := hR
  refine ⟨by rw [kq_up_c (by omega), ru_n (by omega)]; exact h1, by rw [kq_up_c (by omega), ru_n (by omega)]; exact h2, by rw [kq_up_c (by omega), ru_n (by omega)]; exact h3, fun q q0 q1 => ?_, fun q q0 q1 => ?_⟩
  · rw [ru_n (by omega)] at q1
    obtain ⟨e1, e2, e3, e4, e5, e6⟩ := h4 q q0 q1
    unfold aD at e1 e2 e3 e4 e5 e6 ⊢
    refine ⟨?_, ?_, ?_, ?_, ?_, ?_⟩ <;> (rw [kq_up_c (by omega), ru_n (by omega)]; assumption)
  · rw [ru_n (by omega)] at q1
    obtain ⟨e1, e2, e3⟩ := h5 q q0 q1
    unfold aP at e1 e2 e3 ⊢
    by_cases hq : q = p
    · subst hq
      refine ⟨?_, ?_, ?_⟩ <;> first | rw [kq_up_s, ru_s] | (rw [kq_up_c (by omega), ru_n (by omega)]; assumption)
    · refine ⟨?_, ?_, ?_⟩ <;> (rw [kq_up_i hq, ru_n (by omega)]; assumption)
theorem RepH.uP2 {σ : KS} {c : Nat} {a : RW} {p v : Int} (hR : RepH σ c a) (ha : a 0 ≤ 9) (hp : 0 ≤ p) : RepH (kq_up σ (c + 9) p v) c (ru a (57 + 3 * p + 2) v) := by
  obtain ⟨h1, h2, h3, h4, h5⟩ := hR
  refine ⟨by rw [kq_up_c (by omega), ru_n (by omega)]; exact h1, by rw [kq_up_c (by omega), ru_n (by omega)]; exact h2, by rw [kq_up_c (by omega), ru_n (by omega)]; exact h3, fun q q0 q1 => ?_, fun q q0 q1 => ?_⟩
  · rw [ru_n (by omega)] at q1
    obtain ⟨e1, e2, e3, e4, e5, e6⟩ := h4 q q0 q1
    unfold aD at e1 e2 e3 e4 e5 e6 ⊢
    refine ⟨?_, ?_, ?_, ?_, ?_, ?_⟩ <;> (rw [kq_up_c (by omega), ru_n (by omega)]; assumption)
  · rw [ru_n (by omega)] at q1
    obtain ⟨e1, e2, e3⟩ := h5 q q0 q1
    unfold aP at e1 e2 e3 ⊢
    by_cases hq : q = p
    · subst hq
      refine ⟨?_, ?_, ?_⟩ <;> first | rw [kq_up_s, ru_s] | (rw [kq_up_c (by omega), ru_n (by omega)]; assumption)
    · refine ⟨?_, ?_, ?_⟩ <;> (rw [kq_up_i hq, ru_n (by omega)]; assumption)
/-- a row that differs in one place of one of the people or of a door, in range -/
theorem OkR.mood {a : RW} {p v : Int} (ok : OkR a) (hp : 0 ≤ p) (hv : 0 ≤ v ∧ v ≤ 99) : OkR (ru a (57 + 3 * p + 2) v) := by
  obtain ⟨h1, h2, h3, h4, h5⟩ := ok
  refine ⟨by rw [ru_n (by omega)]; exact h1, by rw [ru_n (by omega)]; exact h2, by rw [ru_n (by omega)]; exact h3, fun q q0 q1 => ?_, fun q q0 q1 => ?_⟩
  · rw [ru_n (by omega)] at q1
    have := h4 q q0 q1
    unfold OkD aD at this ⊢
    simp only [ru_n (show (3 + 6 * q + 0 : Int) ≠ 57 + 3 * p + 2 by omega), ru_n (show (3 + 6 * q + 1 : Int) ≠ 57 + 3 * p + 2 by omega), ru_n (show (3 + 6 * q + 2 : Int) ≠ 57 + 3 * p + 2 by omega), ru_n (show (3 + 6 * q + 3 : Int) ≠ 57 + 3 * p + 2 by omega), ru_n (show (3 + 6 * q + 4 : Int) ≠ 57 + 3 * p + 2 by omega), ru_n (show (3 + 6 * q + 5 : Int) ≠ 57 + 3 * p + 2 by omega)]
    exact this
  · rw [ru_n (by omega)] at q1
    have := h5 q q0 q1
    unfold OkP aP at this ⊢
    rw [ru_n (show (57 + 3 * q + 0 : Int) ≠ 57 + 3 * p + 2 by omega), ru_n (show (57 + 3 * q + 1 : Int) ≠ 57 + 3 * p + 2 by omega)]
    refine ⟨this.1, this.2.1, ?_⟩
    unfold ru; split
    · exact hv
    · exact this.2.2
theorem OkR.place {a : RW} {p v : Int} (ok : OkR a) (hp : 0 ≤ p) (hv : 0 ≤ v ∧ v ≤ 6) : OkR (ru a (57 + 3 * p + 1) v) := by
  obtain ⟨h1, h2, h3, h4, h5⟩ := ok
  refine ⟨by rw [ru_n (by omega)]; exact h1, by rw [ru_n (by omega)]; exact h2, by rw [ru_n (by omega)]; exact h3, fun q q0 q1 => ?_, fun q q0 q1 => ?_⟩
  · rw [ru_n (by omega)] at q1
    have := h4 q q0 q1
    unfold OkD aD at this ⊢
    simp only [ru_n (show (3 + 6 * q + 0 : Int) ≠ 57 + 3 * p + 1 by omega), ru_n (show (3 + 6 * q + 1 : Int) ≠ 57 + 3 * p + 1 by omega), ru_n (show (3 + 6 * q + 2 : Int) ≠ 57 + 3 * p + 1 by omega), ru_n (show (3 + 6 * q + 3 : Int) ≠ 57 + 3 * p + 1 by omega), ru_n (show (3 + 6 * q + 4 : Int) ≠ 57 + 3 * p + 1 by omega), ru_n (show (3 + 6 * q + 5 : Int) ≠ 57 + 3 * p + 1 by omega)]
    exact this
  · rw [ru_n (by omega)] at q1
    have := h5 q q0 q1
    unfold OkP aP at this ⊢
    rw [ru_n (show (57 + 3 * q + 0 : Int) ≠ 57 + 3 * p + 1 by omega), ru_n (show (57 + 3 * q + 2 : Int) ≠ 57 + 3 * p + 1 by omega)]
    refine ⟨this.1, ?_, this.2.2⟩
    unfold ru; split
    · exact hv
    · exact this.2.1
/-- heat and voice of a door -/
theorem OkR.heat {a : RW} {d h v : Int} (ok : OkR a) (hd : 0 ≤ d ∧ d < 9) (hh : 0 ≤ h ∧ h ≤ 99) (hv : 0 ≤ v ∧ v ≤ 9) (h0 : h = 0 → v = 9) : OkR (ru (ru a (3 + 6 * d + 4) h) (3 + 6 * d + 5) v) := by
  obtain ⟨h1, h2, h3, h4, h5⟩ := ok
  have z : ∀ j : Int, j < 3 → ru (ru a (3 + 6 * d + 4) h) (3 + 6 * d + 5) v j = a j := fun j hj => by rw [ru_n (by omega), ru_n (by omega)]
  refine ⟨by rw [z 0 (by omega)]; exact h1, by rw [z 1 (by omega)]; exact h2, by rw [z 2 (by omega)]; exact h3, fun q q0 q1 => ?_, fun q q0 q1 => ?_⟩
  · rw [z 0 (by omega)] at q1
    have := h4 q q0 q1
    unfold OkD aD at this ⊢
    simp only [ru_n (show (3 + 6 * q + 0 : Int) ≠ 3 + 6 * d + 4 by omega), ru_n (show (3 + 6 * q + 1 : Int) ≠ 3 + 6 * d + 4 by omega), ru_n (show (3 + 6 * q + 2 : Int) ≠ 3 + 6 * d + 4 by omega), ru_n (show (3 + 6 * q + 3 : Int) ≠ 3 + 6 * d + 4 by omega), ru_n (show (3 + 6 * q + 5 : Int) ≠ 3 + 6 * d + 4 by omega), ru_n (show (3 + 6 * q + 0 : Int) ≠ 3 + 6 * d + 5 by omega), ru_n (show (3 + 6 * q + 1 : Int) ≠ 3 + 6 * d + 5 by omega), ru_n (show (3 + 6 * q + 2 : Int) ≠ 3 + 6 * d + 5 by omega), ru_n (show (3 + 6 * q + 3 : Int) ≠ 3 + 6 * d + 5 by omega), ru_n (show (3 + 6 * q + 4 : Int) ≠ 3 + 6 * d + 5 by omega)]
    obtain ⟨t1, t2, t3, t4, t5, t6, t7, t8⟩ := this
    by_cases hq : q = d
    · subst hq
      rw [ru_s, ru_s]
      exact ⟨t1, t2, t3, t4, t5, hh, hv, h0⟩
    · rw [ru_n (show (3 + 6 * q + 4 : Int) ≠ 3 + 6 * d + 4 by omega), ru_n (show (3 + 6 * q + 5 : Int) ≠ 3 + 6 * d + 5 by omega), ru_n (show (3 + 6 * q + 5 : Int) ≠ 3 + 6 * d + 4 by omega)]
      exact ⟨t1, t2, t3, t4, t5, t6, t7, t8⟩
  · rw [z 1 (by omega)] at q1
    have := h5 q q0 q1
    unfold OkP aP at this ⊢
    simp only [ru_n (show (57 + 3 * q + 0 : Int) ≠ 3 + 6 * d + 4 by omega), ru_n (show (57 + 3 * q + 1 : Int) ≠ 3 + 6 * d + 4 by omega), ru_n (show (57 + 3 * q + 2 : Int) ≠ 3 + 6 * d + 4 by omega), ru_n (show (57 + 3 * q + 0 : Int) ≠ 3 + 6 * d + 5 by omega), ru_n (show (57 + 3 * q + 1 : Int) ≠ 3 + 6 * d + 5 by omega), ru_n (show (57 + 3 * q + 2 : Int) ≠ 3 + 6 * d + 5 by omega)]
    exact this
theorem m_heats_ok {a : RW} {d v p : Int} (ok : OkR a) (hd : 0 ≤ d ∧ d < 9) (hp : 0 ≤ p ∧ p ≤ 9) : OkR (m_heats a d v p) := by
  unfold m_heats
  refine ok.heat hd (m_held_b v) (by split <;> omega) (fun h => ?_)
  unfold m_held at h
  split
  · exfalso; revert h; (repeat' split) <;> omega
  · rfl
theorem m_o1_ok {a : RW} {p d : Int} (ok : OkR a) (hp : 0 ≤ p) : OkR (m_o1 a p d) := ok.mood hp (m_held_b _)
theorem m_o1_01 {a : RW} {p d : Int} (hp : 0 ≤ p) : m_o1 a p d 0 = a 0 ∧ m_o1 a p d 1 = a 1 := ⟨ru_n (by omega), ru_n (by omega)⟩
theorem m_o1_D {a : RW} {p d q w : Int} (hp : 0 ≤ p) (h : 6 * q + w < 54) : aD (m_o1 a p d) q w = aD a q w := by unfold aD m_o1; exact ru_n (by omega)
theorem m_o2_01 {a : RW} {p d : Int} (hp : 0 ≤ p) (hd : 0 ≤ d) : m_o2 a p d 0 = a 0 ∧ m_o2 a p d 1 = a 1 := by
  unfold m_o2 m_heats
  rw [ru_n (by omega), ru_n (by omega), ru_n (by omega), ru_n (by omega)]
  exact m_o1_01 hp
theorem m_open_012 {a : RW} {p d : Int} (hp : 0 ≤ p) (hd : 0 ≤ d ∧ d < 9) : m_open a p d 0 = a 0 ∧ m_open a p d 1 = a 1 ∧ m_open a p d 2 = a 2 := by
  refine ⟨?_, ?_, ?_⟩ <;> (rw [m_open_at hd hp, if_neg (by omega), if_neg (by omega), if_neg (by omega), if_neg (by omega)])
theorem m_o2_ok {a : RW} {p d : Int} (ok : OkR a) (hp : 0 ≤ p ∧ p < a 1) (hd : 0 ≤ d ∧ d < a 0) : OkR (m_o2 a p d) := m_heats_ok (m_o1_ok ok hp.1) (by have := ok.1; omega) (by have := ok.2.1; omega)
theorem m_open_ok {a : RW} {p d : Int} (ok : OkR a) (hp : 0 ≤ p ∧ p < a 1) (hd : 0 ≤ d ∧ d < a 0) (hof : m_of a d (aP a p 1)) : OkR (m_open a p d) := by
  have h9 := ok.1
  have h6 := ok.2.1
  have o2 := m_o2_ok ok hp hd
  unfold m_open
  refine OkR.mood ?_ hp.1 (m_held_b _)
  unfold m_o3
  refine o2.place hp.1 ?_
  have e1 : aD (m_o2 a p d) d 2 = aD a d 2 := by
    rw [← m_o1_D (a := a) (p := p) (d := d) hp.1 (by omega)]; unfold aD m_o2 m_heats; rw [ru_n (by omega), ru_n (by omega)]
  have e2 : aD (m_o2 a p d) d 3 = aD a d 3 := by
    rw [← m_o1_D (a := a) (p := p) (d := d) hp.1 (by omega)]; unfold aD m_o2 m_heats; rw [ru_n (by omega), ru_n (by omega)]
  have e3 : aP (m_o2 a p d) p 1 = aP a p 1 := by
    unfold aP m_o2 m_heats m_o1; rw [ru_n (by omega), ru_n (by omega), ru_n (by omega)]
  unfold m_by
  rw [e1, e2, e3]
  obtain ⟨o1, o2, o3, o4, o5, o6, o7, o8⟩ := ok.2.2.2.1 d hd.1 hd.2
  unfold m_of at hof
  omega

