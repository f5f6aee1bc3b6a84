section STABLE
variable {a g T C O : RW}
theorem m_r1_le {x y c q : Int} : m_r1 T x y c q ≤ T q := by
  unfold m_r1
  split
  · unfold ru
    split
    · rename_i h1 h2; rw [h2]; omega
    · exact Int.le_refl _
  · exact Int.le_refl _
theorem m_r1_at {x y c : Int} : m_r1 T x y c x ≤ T y + (100 * c + 1) := by
  unfold m_r1
  split
  · rw [ru_s]; exact Int.le_refl _
  · omega
theorem m_rx_le {x y c q : Int} : m_rx T x y c q ≤ T q := by
  unfold m_rx
  split
  · exact Int.le_refl _
  · exact Int.le_trans m_r1_le m_r1_le
theorem m_rn_up {q : Int} {n : Nat} : ∀ k : Nat, m_rn a g T (n + k) q ≤ m_rn a g T n q := by
  intro k
  induction k with
  | zero => exact Int.le_refl _
  | succ k ih => exact Int.le_trans m_rx_le ih
theorem m_rn_le {q : Int} (n : Nat) : m_rn a g T n q ≤ T q := by
  have := m_rn_up (a := a) (g := g) (T := T) (q := q) (n := 0) n
  rw [Nat.zero_add] at this
  exact this
/-- a round looks at each door, both ways -/
theorem m_rn_edge {d : Int} {N : Nat} (hd : 0 ≤ d ∧ d < (N : Int)) (hc : 0 ≤ g d) : m_rn a g T N (aD a d 2) ≤ T (aD a d 3) + (100 * g d + 1) ∧ m_rn a g T N (aD a d 3) ≤ T (aD a d 2) + (100 * g d + 1) := by
  have hs := m_rn_s (a := a) (g := g) (T := T) hd.1
  have up : ∀ q, m_rn a g T N q ≤ m_rn a g T (d + 1).toNat q := fun q => by
    have := m_rn_up (a := a) (g := g) (T := T) (q := q) (n := (d + 1).toNat) (N - (d + 1).toNat)
    rw [show (d + 1).toNat + (N - (d + 1).toNat) = N by omega] at this
    exact this
  have u1 := up (aD a d 2)
  have u2 := up (aD a d 3)
  rw [hs] at u1 u2
  have l1 := m_rn_le (a := a) (g := g) (T := T) (q := aD a d 2) d.toNat
  have l2 := m_rn_le (a := a) (g := g) (T := T) (q := aD a d 3) d.toNat
  generalize m_rn a g T d.toNat = U at *
  generalize aD a d 2 = x at *
  generalize aD a d 3 = y at *
  have e : m_rx U x y (g d) = m_r1 (m_r1 U x y (g d)) y x (g d) := if_neg (by omega)
  rw [e] at u1 u2
  have k1 : m_r1 (m_r1 U x y (g d)) y x (g d) x ≤ m_r1 U x y (g d) x := m_r1_le
  have k2 : m_r1 U x y (g d) x ≤ U y + (100 * g d + 1) := m_r1_at
  have k3 : m_r1 (m_r1 U x y (g d)) y x (g d) y ≤ m_r1 U x y (g d) x + (100 * g d + 1) := m_r1_at
  have k4 : m_r1 U x y (g d) x ≤ U x := m_r1_le
  omega
/-- what a round makes new has j doors or more -/
def m_NW (j : Int) (T C : RW) : Prop := ∀ q, 0 ≤ q → q < 7 → C q = T q ∨ j ≤ C q % 100
theorem m_NW_r1 {j x y c : Int} (h : m_PI C) (hx : 0 ≤ x ∧ x < 7) (hy : 0 ≤ y ∧ y < 7) (hc : 0 ≤ c ∧ c ≤ 108) (hn : m_NW j T C) (hl : C x ≤ T x) (he : j - 1 ≤ C y % 100 ∨ T x ≤ C y + (100 * c + 1)) : m_NW j T (m_r1 C x y c) := by
  have rx := h.rg hx
  have ry := h.rg hy
  unfold m_rg at rx ry
  intro q q0 q1
  have hq := hn q q0 q1
  unfold m_r1
  split
  · unfold ru
    split
    · right; omega
    · exact hq
  · exact hq
theorem m_NW_c {j y c t : Int} (hy : 0 ≤ y ∧ y < 7) (hn : m_NW j T C) (hO : m_NW (j - 1) O T) (he : t ≤ O y + (100 * c + 1)) : j - 1 ≤ C y % 100 ∨ t ≤ C y + (100 * c + 1) := by
  rcases hn y hy.1 hy.2 with h | h
  · rcases hO y hy.1 hy.2 with k | k
    · right; omega
    · left; rw [h]; exact k
  · left; omega
theorem m_NW_rn {j : Int} (ok : OkR a) (hg : ∀ d, 0 ≤ d → d < a 0 → g d ≤ 108) (h : m_PI T) (hO : j = 1 ∨ ∃ O, m_NW (j - 1) O T ∧ T = m_rn a g O (a 0).toNat) : ∀ n : Nat, n ≤ (a 0).toNat → m_NW j T (m_rn a g T n) := by
  have n9 := ok.1
  intro n
  induction n with
  | zero => intro _ q _ _; exact Or.inl rfl
  | succ n ih =>
    intro hn
    obtain ⟨o1, o2, o3, o4, o5, o6, o7, o8⟩ := ok.2.2.2.1 n (by omega) (by omega)
    have hc8 := hg n (by omega) (by omega)
    have hi := ih (by omega)
    have hp := m_PI_rn ok hg h n (by omega)
    have hl := fun q => m_rn_le (a := a) (g := g) (T := T) (q := q) n
    show m_NW j T (m_rx (m_rn a g T n) (aD a n 2) (aD a n 3) (g n))
    have hed : 0 ≤ g n → j = 1 ∨ ∃ O, m_NW (j - 1) O T ∧ T (aD a n 2) ≤ O (aD a n 3) + (100 * g n + 1) ∧ T (aD a n 3) ≤ O (aD a n 2) + (100 * g n + 1) := fun hc => by
      rcases hO with e | ⟨O, h1, h2⟩
      · exact Or.inl e
      · right
        refine ⟨O, h1, ?_⟩
        have := m_rn_edge (a := a) (g := g) (T := O) (d := n) (N := (a 0).toNat) (by omega) hc
        rw [← h2] at this
        exact this
    generalize m_rn a g T n = C at *
    generalize aD a n 2 = x at *
    generalize aD a n 3 = y at *
    unfold m_rx
    split
    · exact hi
    · rename_i hc
      have hx : 0 ≤ x ∧ x < 7 := by omega
      have hy : 0 ≤ y ∧ y < 7 := by omega
      have cc : 0 ≤ g n ∧ g n ≤ 108 := by omega
      have e1 : j - 1 ≤ C y % 100 ∨ T x ≤ C y + (100 * g n + 1) := by
        rcases hed cc.1 with e | ⟨O, h1, h2, h3⟩
        · left; omega
        · exact m_NW_c hy hi h1 h2
      have s1 := m_NW_r1 hp hx hy cc hi (hl x) e1
      have p1 := m_PI_r1 hp hx hy cc
      have l1 : m_r1 C x y (g n) y ≤ T y := Int.le_trans m_r1_le (hl y)
      have e2 : j - 1 ≤ m_r1 C x y (g n) x % 100 ∨ T y ≤ m_r1 C x y (g n) x + (100 * g n + 1) := by
        rcases hed cc.1 with e | ⟨O, h1, h2, h3⟩
        · left; omega
        · exact m_NW_c hx s1 h1 h3
      exact m_NW_r1 p1 hy hx cc s1 l1 e2
theorem m_NW_rr {room : Int} (ok : OkR a) (hg : ∀ d, 0 ≤ d → d < a 0 → g d ≤ 108) (hr : 0 ≤ room ∧ room < 7) : ∀ n : Nat, m_NW ((n : Int) + 1) (m_rr a g (m_T0 room) n) (m_rr a g (m_T0 room) (n + 1)) := by
  intro n
  induction n with
  | zero => exact m_NW_rn ok hg (m_PI_0 hr) (Or.inl rfl) _ (Nat.le_refl _)
  | succ n ih =>
    refine m_NW_rn ok hg (m_PI_rr ok hg (m_PI_0 hr) (n + 1)) (Or.inr ⟨m_rr a g (m_T0 room) n, ?_, rfl⟩) _ (Nat.le_refl _)
    rw [show ((n + 1 : Nat) : Int) + 1 - 1 = (n : Int) + 1 by omega]
    exact ih
/-- after seven rounds no door is a shorter way -/
theorem m_tl_edge {room d : Int} (ok : OkR a) (hg : ∀ d, 0 ≤ d → d < a 0 → g d ≤ 108) (hr : 0 ≤ room ∧ room < 7) (hd : 0 ≤ d ∧ d < a 0) (hc : 0 ≤ g d) : m_tl a g room (aD a d 2) ≤ m_tl a g room (aD a d 3) + (100 * g d + 1) ∧ m_tl a g room (aD a d 3) ≤ m_tl a g room (aD a d 2) + (100 * g d + 1) := by
  obtain ⟨o1, o2, o3, o4, o5, o6, o7, o8⟩ := ok.2.2.2.1 d hd.1 hd.2
  have key : ∀ q, 0 ≤ q → q < 7 → m_tl a g room q = m_rr a g (m_T0 room) 6 q := fun q q0 q1 => by
    have h1 := m_NW_rr ok hg hr 6 q q0 q1
    have h2 := (m_PI_tl ok hg hr).rg ⟨q0, q1⟩
    unfold m_rg at h2
    have h3 : m_rr a g (m_T0 room) (6 + 1) q = m_tl a g room q := rfl
    rw [h3] at h1
    rcases h1 with h | h
    · exact h
    · omega
  have he := m_rn_edge (a := a) (g := g) (T := m_rr a g (m_T0 room) 6) (d := d) (N := (a 0).toNat) (by omega) hc
  rw [← key (aD a d 2) (by omega) (by omega), ← key (aD a d 3) (by omega) (by omega)] at he
  exact he
end STABLE

