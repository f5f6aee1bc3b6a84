/-! WAYS: the tolls from each room to one; a toll holds what is given and how many doors (100 to 1) -/
def m_r1 (T : RW) (x y c : Int) : RW := if T y + (100 * c + 1) < T x then ru T x (T y + (100 * c + 1)) else T
def m_rx (T : RW) (x y c : Int) : RW := if c < 0 then T else m_r1 (m_r1 T x y c) y x c
def m_rn (a g T : RW) : Nat → RW
  | 0 => T
  | n + 1 => m_rx (m_rn a g T n) (aD a n 2) (aD a n 3) (g n)
def m_rr (a g T : RW) : Nat → RW
  | 0 => T
  | n + 1 => m_rn a g (m_rr a g T n) (a 0).toNat
def m_T0 (room : Int) : RW := fun r => if r = room then 0 else 1000000000
def m_tl (a g : RW) (room : Int) : RW := m_rr a g (m_T0 room) 7
theorem m_rn_s {a g T : RW} {i : Int} (h : 0 ≤ i) : m_rn a g T (i + 1).toNat = m_rx (m_rn a g T i.toNat) (aD a i 2) (aD a i 3) (g i) := by
  obtain ⟨n, rfl⟩ := Int.eq_ofNat_of_zero_le h
  rfl
theorem m_rr_s {a g T : RW} {i : Int} (h : 0 ≤ i) : m_rr a g T (i + 1).toNat = m_rn a g (m_rr a g T i.toNat) (a 0).toNat := by
  obtain ⟨n, rfl⟩ := Int.eq_ofNat_of_zero_le h
  rfl
def m_b (b : Bool) : Int := if b = true then 1 else 0
def m_cnt (S : Int → Bool) : Int := m_b (S 0) + m_b (S 1) + m_b (S 2) + m_b (S 3) + m_b (S 4) + m_b (S 5) + m_b (S 6)
theorem m_b_01 (b : Bool) : 0 ≤ m_b b ∧ m_b b ≤ 1 := by cases b <;> decide
theorem m_cnt_b (S : Int → Bool) : m_cnt S ≤ 7 := by
  have h0 := m_b_01 (S 0)
  have h1 := m_b_01 (S 1)
  have h2 := m_b_01 (S 2)
  have h3 := m_b_01 (S 3)
  have h4 := m_b_01 (S 4)
  have h5 := m_b_01 (S 5)
  have h6 := m_b_01 (S 6)
  unfold m_cnt; omega
theorem m_cnt_add {S : Int → Bool} {x : Int} (hx : 0 ≤ x ∧ x < 7) (h : S x = false) : m_cnt (fun q => if q = x then true else S q) = m_cnt S + 1 := by
  have hx7 : x = 0 ∨ x = 1 ∨ x = 2 ∨ x = 3 ∨ x = 4 ∨ x = 5 ∨ x = 6 := by omega
  unfold m_cnt
  rcases hx7 with rfl | rfl | rfl | rfl | rfl | rfl | rfl <;> simp [m_b, h] <;> omega
theorem m_cnt_one {x : Int} (hx : 0 ≤ x ∧ x < 7) : m_cnt (fun q => decide (q = x)) = 1 := by
  have hx7 : x = 0 ∨ x = 1 ∨ x = 2 ∨ x = 3 ∨ x = 4 ∨ x = 5 ∨ x = 6 := by omega
  rcases hx7 with rfl | rfl | rfl | rfl | rfl | rfl | rfl <;> decide
/-- what tolls are: far, or those of a way that comes through no room twice -/
def m_pt (T : RW) (r : Int) : Prop := T r = 1000000000 ∨ (0 ≤ T r ∧ T r ≤ 10801 * (T r % 100) ∧ T r % 100 ≤ 6 ∧ ∃ S : Int → Bool, m_cnt S = T r % 100 + 1 ∧ S r = true ∧ ∀ q, 0 ≤ q → q < 7 → S q = true → T q ≤ T r)
def m_PI (T : RW) : Prop := ∀ r, 0 ≤ r → r < 7 → m_pt T r
theorem m_PI_r1 {T : RW} {x y c : Int} (h : m_PI T) (hx : 0 ≤ x ∧ x < 7) (hy : 0 ≤ y ∧ y < 7) (hc : 0 ≤ c ∧ c ≤ 108) : m_PI (m_r1 T x y c) := by
  unfold m_r1
  split
  · rename_i hlt
    have px := h x hx.1 hx.2
    have py := h y hy.1 hy.2
    have hTx : T x ≤ 1000000000 := by rcases px with e | ⟨e1, e2, e3, -⟩ <;> omega
    rcases py with e | ⟨y1, y2, y3, S, s1, s2, s3⟩
    · omega
    · have hSx : S x = false := by
        cases hs : S x with
        | false => rfl
        | true => have := s3 x hx.1 hx.2 hs; omega
      have hk := m_cnt_b (fun q => if q = x then true else S q)
      rw [m_cnt_add hx hSx] at hk
      intro r r0 r1
      by_cases hr : r = x
      · subst hr
        refine Or.inr ?_
        rw [ru_s]
        have hm : (T y + (100 * c + 1)) % 100 = T y % 100 + 1 := by omega
        rw [hm]
        refine ⟨by omega, by omega, by omega, fun q => if q = r then true else S q, ?_, by simp, fun q q0 q1 hq => ?_⟩
        · rw [m_cnt_add hx hSx]; omega
        · by_cases hqr : q = r
          · rw [hqr, ru_s]; omega
          · rw [ru_n hqr]
            dsimp only at hq
            rw [if_neg hqr] at hq
            have := s3 q q0 q1 hq; omega
      · rcases h r r0 r1 with e | ⟨e1, e2, e3, S2, z1, z2, z3⟩
        · exact Or.inl (by rw [ru_n hr]; exact e)
        · refine Or.inr ?_
          rw [ru_n hr]
          refine ⟨e1, e2, e3, S2, z1, z2, fun q q0 q1 hq => ?_⟩
          have := z3 q q0 q1 hq
          by_cases hqx : q = x
          · rw [hqx] at this ⊢; rw [ru_s]; omega
          · rw [ru_n hqx]; exact this
  · exact h
theorem m_PI_rx {T : RW} {x y c : Int} (h : m_PI T) (hx : 0 ≤ x ∧ x < 7) (hy : 0 ≤ y ∧ y < 7) (hc : c ≤ 108) : m_PI (m_rx T x y c) := by
  unfold m_rx
  split
  · exact h
  · exact m_PI_r1 (m_PI_r1 h hx hy (by omega)) hy hx (by omega)
theorem m_PI_rn {a g T : RW} (ok : OkR a) (hg : ∀ d, 0 ≤ d → d < a 0 → g d ≤ 108) (h : m_PI T) : ∀ n : Nat, n ≤ (a 0).toNat → m_PI (m_rn a g T n) := by
  have n9 := ok.1
  intro n
  induction n with
  | zero => intro _; exact h
  | succ n ih =>
    intro hn
    obtain ⟨o1, o2, o3, o4, o5, o6, o7, o8⟩ := ok.2.2.2.1 n (by omega) (by omega)
    exact m_PI_rx (ih (by omega)) (by omega) (by omega) (hg n (by omega) (by omega))
theorem m_PI_rr {a g T : RW} (ok : OkR a) (hg : ∀ d, 0 ≤ d → d < a 0 → g d ≤ 108) (h : m_PI T) : ∀ n : Nat, m_PI (m_rr a g T n) := by
  intro n
  induction n with
  | zero => exact h
  | succ n ih => exact m_PI_rn ok hg ih _ (Nat.le_refl _)
theorem m_PI_0 {room : Int} (hr : 0 ≤ room ∧ room < 7) : m_PI (m_T0 room) := by
  intro r r0 r1
  unfold m_pt m_T0
  by_cases h : r = room
  · subst h
    refine Or.inr ?_
    rw [if_pos rfl]
    refine ⟨by omega, by omega, by omega, fun q => decide (q = r), m_cnt_one hr, by simp, fun q q0 q1 hq => ?_⟩
    have : q = r := by simpa using hq
    rw [if_pos this]
    omega
  · exact Or.inl (if_neg h)
/-- the class's price of a toll -/
def m_f (t : Int) : Int := if 1000000000 ≤ t then 1000000 else 16 * (t / 100) + t % 100
def m_rg (t : Int) : Prop := t = 1000000000 ∨ (0 ≤ t ∧ t ≤ 64806 ∧ t % 100 ≤ 6)
theorem m_PI.rg {T : RW} (h : m_PI T) {r : Int} (hr : 0 ≤ r ∧ r < 7) : m_rg (T r) := by
  rcases h r hr.1 hr.2 with e | ⟨e1, e2, e3, -⟩
  · exact Or.inl e
  · exact Or.inr ⟨e1, by omega, e3⟩
theorem m_f_b {t : Int} (h : m_rg t) : 0 ≤ m_f t ∧ m_f t ≤ 1000000 := by
  unfold m_f; rcases h with e | ⟨e1, e2, e3⟩ <;> (split <;> omega)
theorem m_f_far {t : Int} (h : m_rg t) : 1000000 ≤ m_f t ↔ 1000000000 ≤ t := by
  unfold m_f; rcases h with e | ⟨e1, e2, e3⟩ <;> (split <;> omega)
theorem m_f_lt {x y c : Int} (hx : m_rg x) (hy : m_rg y) (hc : 0 ≤ c ∧ c ≤ 108) : m_mn 1000000 (m_f y + 16 * c + 1) < m_f x ↔ y + (100 * c + 1) < x := by
  unfold m_mn m_f
  rcases hx with e | ⟨e1, e2, e3⟩ <;> rcases hy with z | ⟨z1, z2, z3⟩ <;> ((repeat' split) <;> omega)
theorem m_f_add {x y c : Int} (hx : m_rg x) (hy : m_rg y) (hc : 0 ≤ c ∧ c ≤ 108) (h : y + (100 * c + 1) < x) : m_mn 1000000 (m_f y + 16 * c + 1) = m_f (y + (100 * c + 1)) := by
  unfold m_mn m_f
  rcases hx with e | ⟨e1, e2, e3⟩ <;> rcases hy with z | ⟨z1, z2, z3⟩ <;> ((repeat' split) <;> omega)
theorem m_f_eq {x y c : Int} (hx : m_rg x) (hxf : x < 1000000000) (hy : m_rg y) (hc : 0 ≤ c ∧ c ≤ 108) : m_mn 1000000 (m_f y + 16 * c + 1) = m_f x ↔ x = y + (100 * c + 1) := by
  unfold m_mn m_f
  rcases hx with e | ⟨e1, e2, e3⟩ <;> rcases hy with z | ⟨z1, z2, z3⟩ <;> ((repeat' split) <;> omega)
/-- a round that changes nothing: no round does any more -/
theorem m_rr_fix {a g T : RW} {n : Nat} (h : m_rr a g T (n + 1) = m_rr a g T n) : ∀ k : Nat, m_rr a g T (n + k) = m_rr a g T n := by
  intro k
  induction k with
  | zero => rfl
  | succ k ih =>
    show m_rn a g (m_rr a g T (n + k)) (a 0).toNat = _
    rw [ih]; exact h

