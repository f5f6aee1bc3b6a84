section GOES
variable {l : Launch} {σ M : KS} {a T : RW}
theorem m_fi_some {p : Int → Bool} : ∀ (k : Nat) (i : Int), (∃ d, i ≤ d ∧ d < i + k ∧ p d = true) → i ≤ m_fi p k i ∧ m_fi p k i < i + k ∧ p (m_fi p k i) = true := by
  intro k
  induction k with
  | zero => rintro i ⟨d, d0, d1, -⟩; omega
  | succ k ih =>
    rintro i ⟨d, d0, d1, hd⟩
    have e : m_fi p (k + 1) i = if p i = true then i else m_fi p k (i + 1) := rfl
    rw [e]
    by_cases h : p i = true
    · rw [if_pos h]; exact ⟨by omega, by omega, h⟩
    · rw [if_neg h]
      have hne : d ≠ i := fun h1 => h (h1 ▸ hd)
      obtain ⟨h1, h2, h3⟩ := ih (i + 1) ⟨d, by omega, by omega, hd⟩
      exact ⟨by omega, by omega, h3⟩
def m_fd1 (a T : RW) (o : Int) : Int := m_fi (m_pd a (m_gv a) T o) (a 0).toNat 0
/-- a step on the best way -/
theorem m_fd1_s {room o : Int} (ok : OkR a) (hr : 0 ≤ room ∧ room < 7) (ho : 0 ≤ o ∧ o < 7) (hn : o ≠ room) (hf : m_tn a room o < 1000000000) : (0 ≤ m_fd1 a (m_tn a room) o ∧ m_fd1 a (m_tn a room) o < a 0) ∧ m_of a (m_fd1 a (m_tn a room) o) o ∧ m_tn a room o = m_tn a room (m_by a (m_fd1 a (m_tn a room) o) o) + (100 * m_gv a (m_fd1 a (m_tn a room) o) + 1) := by
  have n9 := ok.1
  have hg : ∀ d, 0 ≤ d → d < a 0 → m_gv a d ≤ 108 := fun d d0 d1 => (m_gv_b ok ⟨d0, d1⟩).2
  obtain ⟨d, d0, d1, d2, d3, d4⟩ := m_tl_door ok hg hr ho hn hf
  have hs := m_fi_some (p := m_pd a (m_gv a) (m_tn a room) o) (a 0).toNat 0 ⟨d, d0, by omega, by unfold m_pd; rw [decide_eq_true_eq]; exact ⟨d3, d4⟩⟩
  obtain ⟨h1, h2, h3⟩ := hs
  have h3 : m_pd a (m_gv a) (m_tn a room) o (m_fd1 a (m_tn a room) o) = true := h3
  unfold m_pd at h3
  rw [decide_eq_true_eq] at h3
  refine ⟨⟨h1, ?_⟩, h3.1, h3.2⟩
  show m_fi _ _ _ < _
  omega
end GOES

