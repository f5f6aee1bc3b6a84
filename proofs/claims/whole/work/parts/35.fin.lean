section FIN
variable {a g g' : RW}
/-- which rooms have a way at all -/
def m_FE (T T' : RW) : Prop := ∀ q, 0 ≤ q → q < 7 → (T q < 1000000000 ↔ T' q < 1000000000)
theorem m_r1_fin {T : RW} {x y c q : Int} (h : m_PI T) (hx : 0 ≤ x ∧ x < 7) (hy : 0 ≤ y ∧ y < 7) (hc : 0 ≤ c ∧ c ≤ 108) : m_r1 T x y c q < 1000000000 ↔ (T q < 1000000000 ∨ (q = x ∧ T y < 1000000000)) := by
  have rx := h.rg hx
  have ry := h.rg hy
  unfold m_rg at rx ry
  unfold m_r1 ru
  by_cases h1 : T y + (100 * c + 1) < T x
  · rw [if_pos h1]
    by_cases h2 : q = x
    · rw [if_pos h2, h2]; omega
    · rw [if_neg h2]; omega
  · rw [if_neg h1]
    by_cases h2 : q = x
    · rw [h2]; omega
    · omega
theorem m_FE_r1 {T T' : RW} {x y c c' : Int} (h : m_PI T) (h' : m_PI T') (hx : 0 ≤ x ∧ x < 7) (hy : 0 ≤ y ∧ y < 7) (hc : 0 ≤ c ∧ c ≤ 108) (hc' : 0 ≤ c' ∧ c' ≤ 108) (e : m_FE T T') : m_FE (m_r1 T x y c) (m_r1 T' x y c') := by
  intro q q0 q1
  rw [m_r1_fin h hx hy hc, m_r1_fin h' hx hy hc', e q q0 q1, e y hy.1 hy.2]
theorem m_FE_rx {T T' : RW} {x y c c' : Int} (h : m_PI T) (h' : m_PI T') (hx : 0 ≤ x ∧ x < 7) (hy : 0 ≤ y ∧ y < 7) (hc : c ≤ 108) (hc' : c' ≤ 108) (hs : c < 0 ↔ c' < 0) (e : m_FE T T') : m_FE (m_rx T x y c) (m_rx T' x y c') := by
  unfold m_rx
  by_cases h0 : c < 0
  · rw [if_pos h0, if_pos (hs.mp h0)]; exact e
  · have h0' : ¬ c' < 0 := fun z => h0 (hs.mpr z)
    rw [if_neg h0, if_neg h0']
    have c1 : 0 ≤ c ∧ c ≤ 108 := by omega
    have c2 : 0 ≤ c' ∧ c' ≤ 108 := by omega
    exact m_FE_r1 (m_PI_r1 h hx hy c1) (m_PI_r1 h' hx hy c2) hy hx c1 c2 (m_FE_r1 h h' hx hy c1 c2 e)
theorem m_FE_rn {T T' : RW} (ok : OkR a) (hg : ∀ d, 0 ≤ d → d < a 0 → g d ≤ 108 ∧ g' d ≤ 108 ∧ (g d < 0 ↔ g' d < 0)) (h : m_PI T) (h' : m_PI T') (e : m_FE T T') : ∀ n : Nat, n ≤ (a 0).toNat → m_FE (m_rn a g T n) (m_rn a g' T' n) := by
  have n9 := ok.1
  intro n
  induction n with
  | zero => intro _; exact e
  | succ n ih =>
    intro hn
    obtain ⟨k1, k2, k3⟩ := hg n (by omega) (by omega)
    obtain ⟨o1, o2, o3, o4, o5, o6, o7, o8⟩ := ok.2.2.2.1 n (by omega) (by omega)
    exact m_FE_rx (m_PI_rn ok (fun d d0 d1 => (hg d d0 d1).1) h n (by omega)) (m_PI_rn ok (fun d d0 d1 => (hg d d0 d1).2.1) h' n (by omega)) (by omega) (by omega) k1 k2 k3 (ih (by omega))
theorem m_FE_rr {room : Int} (ok : OkR a) (hr : 0 ≤ room ∧ room < 7) (hg : ∀ d, 0 ≤ d → d < a 0 → g d ≤ 108 ∧ g' d ≤ 108 ∧ (g d < 0 ↔ g' d < 0)) : ∀ n : Nat, m_FE (m_rr a g (m_T0 room) n) (m_rr a g' (m_T0 room) n) := by
  intro n
  induction n with
  | zero => exact fun _ _ _ => Iff.rfl
  | succ n ih => exact m_FE_rn ok hg (m_PI_rr ok (fun d d0 d1 => (hg d d0 d1).1) (m_PI_0 hr) n) (m_PI_rr ok (fun d d0 d1 => (hg d d0 d1).2.1) (m_PI_0 hr) n) ih _ (Nat.le_refl _)
theorem m_FE_tl {room : Int} (ok : OkR a) (hr : 0 ≤ room ∧ room < 7) (hg : ∀ d, 0 ≤ d → d < a 0 → g d ≤ 108 ∧ g' d ≤ 108 ∧ (g d < 0 ↔ g' d < 0)) : m_FE (m_tl a g room) (m_tl a g' room) := m_FE_rr ok hr hg 7
theorem m_gi_9 {t : Int} (h : m_rg t) : (m_gi t = -9 ↔ ¬ t < 1000000000) ∧ (m_gi t < 0 ↔ ¬ t < 1000000000) := by
  unfold m_gi; unfold m_rg at h; split <;> omega
end FIN

