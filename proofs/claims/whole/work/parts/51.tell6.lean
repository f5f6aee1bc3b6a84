section TELL6
variable {l : Launch} {σ : KS} {w a : RW} {n : Int} {c : Nat}
theorem m_addD_ok {k f o b : Int} (ok : OkR a) (h0 : a 0 < 9) (hk : 0 ≤ k ∧ k ≤ 5) (hf : 0 ≤ f ∧ f ≤ 9) (ho : 0 ≤ o ∧ o < 7) (hb : 0 ≤ b ∧ b < 7) (hne : o ≠ b) : OkR (m_addD a k f o b) ∧ m_addD a k f o b 2 = a 2 := by
  obtain ⟨h9, h6, h2, hD, hP⟩ := ok
  have e0 : m_addD a k f o b 0 = a 0 + 1 := by unfold m_addD; rw [ru_s]
  have en : ∀ j, j ≠ 0 → (j < 3 + 6 * a 0 ∨ 3 + 6 * a 0 + 5 < j) → m_addD a k f o b j = a j := fun j j0 j1 => by
    unfold m_addD
    rw [ru_n j0, ru_n (by omega), ru_n (by omega), ru_n (by omega), ru_n (by omega), ru_n (by omega), ru_n (by omega)]
  have x0 : m_addD a k f o b (3 + 6 * a 0 + 0) = k := by
    unfold m_addD
    rw [ru_n (by omega), ru_n (by omega), ru_n (by omega), ru_n (by omega), ru_n (by omega), ru_n (by omega), ru_s]
  have x1 : m_addD a k f o b (3 + 6 * a 0 + 1) = f := by
    unfold m_addD
    rw [ru_n (by omega), ru_n (by omega), ru_n (by omega), ru_n (by omega), ru_n (by omega), ru_s]
  have x2 : m_addD a k f o b (3 + 6 * a 0 + 2) = o := by
    unfold m_addD
    rw [ru_n (by omega), ru_n (by omega), ru_n (by omega), ru_n (by omega), ru_s]
  have x3 : m_addD a k f o b (3 + 6 * a 0 + 3) = b := by
    unfold m_addD
    rw [ru_n (by omega), ru_n (by omega), ru_n (by omega), ru_s]
  have x4 : m_addD a k f o b (3 + 6 * a 0 + 4) = 0 := by
    unfold m_addD
    rw [ru_n (by omega), ru_n (by omega), ru_s]
  have x5 : m_addD a k f o b (3 + 6 * a 0 + 5) = 9 := by
    unfold m_addD
    rw [ru_n (by omega), ru_s]
  refine ⟨⟨by omega, by rw [en 1 (by omega) (by omega)]; exact h6, by rw [en 2 (by omega) (by omega)]; exact h2, fun d d0 d1 => ?_, fun p p0 p1 => ?_⟩, en 2 (by omega) (by omega)⟩
  · by_cases hd : d = a 0
    · subst hd
      unfold OkD aD
      rw [x0, x1, x2, x3, x4, x5]
      omega
    · have := hD d d0 (by omega)
      unfold OkD aD at this ⊢
      rw [en _ (by omega) (by omega), en _ (by omega) (by omega), en _ (by omega) (by omega), en _ (by omega) (by omega), en _ (by omega) (by omega), en _ (by omega) (by omega)]
      exact this
  · rw [en 1 (by omega) (by omega)] at p1
    have := hP p p0 p1
    unfold OkP aP at this ⊢
    rw [en _ (by omega) (by omega), en _ (by omega) (by omega), en _ (by omega) (by omega)]
    exact this
theorem m_addD_z {k f o b : Int} (ok : OkR a) (h0 : a 0 < 9) (z : Zr a) : Zr (m_addD a k f o b) := by
  have h9 := ok.1
  unfold m_addD
  exact ((((((z.ru (by omega)).ru (by omega)).ru (by omega)).ru (by omega)).ru (by omega)).ru (by omega)).ru (by omega)
theorem m_addP_ok {t o : Int} (ok : OkR a) (h0 : a 1 < 6) (ht : 0 ≤ t ∧ t ≤ 9) (ho : 0 ≤ o ∧ o < 7) : OkR (m_addP a t o) ∧ m_addP a t o 2 = a 2 := by
  obtain ⟨h9, h6, h2, hD, hP⟩ := ok
  have e0 : m_addP a t o 1 = a 1 + 1 := by unfold m_addP; rw [ru_s]
  have en : ∀ j, j ≠ 1 → (j < 57 + 3 * a 1 ∨ 57 + 3 * a 1 + 2 < j) → m_addP a t o j = a j := fun j j0 j1 => by
    unfold m_addP
    rw [ru_n j0, ru_n (by omega), ru_n (by omega), ru_n (by omega)]
  have x0 : m_addP a t o (57 + 3 * a 1 + 0) = t := by
    unfold m_addP
    rw [ru_n (by omega), ru_n (by omega), ru_n (by omega), ru_s]
  have x1 : m_addP a t o (57 + 3 * a 1 + 1) = o := by
    unfold m_addP
    rw [ru_n (by omega), ru_n (by omega), ru_s]
  have x2 : m_addP a t o (57 + 3 * a 1 + 2) = 0 := by
    unfold m_addP
    rw [ru_n (by omega), ru_s]
  refine ⟨⟨by rw [en 0 (by omega) (by omega)]; exact h9, by omega, by rw [en 2 (by omega) (by omega)]; exact h2, fun d d0 d1 => ?_, fun p p0 p1 => ?_⟩, en 2 (by omega) (by omega)⟩
  · rw [en 0 (by omega) (by omega)] at d1
    have := hD d d0 (by omega)
    unfold OkD aD at this ⊢
    rw [en _ (by omega) (by omega), en _ (by omega) (by omega), en _ (by omega) (by omega), en _ (by omega) (by omega), en _ (by omega) (by omega), en _ (by omega) (by omega)]
    exact this
  · by_cases hd : p = a 1
    · subst hd
      unfold OkP aP
      rw [x0, x1, x2]
      omega
    · have := hP p p0 (by omega)
      unfold OkP aP at this ⊢
      rw [en _ (by omega) (by omega), en _ (by omega) (by omega), en _ (by omega) (by omega)]
      exact this
theorem m_addP_z {t o : Int} (ok : OkR a) (h0 : a 1 < 6) (z : Zr a) : Zr (m_addP a t o) := by
  have h6 := ok.2.1
  unfold m_addP
  exact (((z.ru (by omega)).ru (by omega)).ru (by omega)).ru (by omega)
/-- the numbers of the statement that begins at b -/
def m_x0 (w : RW) (n b : Int) : Int := if m_at w n b = 100 then m_kind (m_at w n (b + 1)) else if m_at w n b = 104 then 10 * m_dg w n (b + 1) + m_dg w n (b + 2) else m_dg w n (b + 1)
def m_x1 (w : RW) (n b : Int) : Int := if m_at w n b = 113 then 10 * m_dg w n (b + 2) + m_dg w n (b + 3) else m_dg w n (b + 2)
def m_x2 (w : RW) (n b : Int) : Int := if m_at w n b = 113 then m_dg w n (b + 4) else m_dg w n (b + 3)
def m_x3 (w : RW) (n b : Int) : Int := m_dg w n (b + 4)
/-- can it be done, and what comes of it -/
abbrev m_hq (a : RW) (c x0 x1 x2 x3 : Int) : Prop := (c = 100 ∧ a 0 < 9 ∧ (0 ≤ x2 ∧ x2 < 7) ∧ (0 ≤ x3 ∧ x3 < 7) ∧ x2 ≠ x3) ∨ (c = 112 ∧ a 1 < 6 ∧ 0 ≤ x1 ∧ x1 < 7) ∨ (c = 111 ∧ (0 ≤ x0 ∧ x0 < a 1) ∧ (0 ≤ x1 ∧ x1 < a 0) ∧ m_of a x1 (aP a x0 1)) ∨ (c = 113 ∧ (0 ≤ x0 ∧ x0 < a 0) ∧ (0 ≤ x2 ∧ x2 < a 1)) ∨ (c = 97 ∧ 0 ≤ x0 ∧ x0 < a 0) ∨ (c = 104 ∧ 1 ≤ x0 ∧ x0 ≤ 60 ∧ a 2 + x0 ≤ 999)
def m_hw (a : RW) (c x0 x1 x2 x3 : Int) : RW := if c = 100 then m_addD a x0 x1 x2 x3 else if c = 112 then m_addP a x0 x1 else if c = 111 then m_open a x0 x1 else if c = 113 then m_heats a x0 x1 x2 else if c = 97 then m_heats a x0 0 9 else m_hours a x0.toNat
theorem m_hw_ok {c x0 x1 x2 x3 : Int} (ok : OkR a) (h2 : a 2 ≤ 999) (z : Zr a) (hx0 : 0 ≤ x0) (h5 : c = 100 → x0 ≤ 5 ∧ 0 ≤ x1 ∧ x1 ≤ 9) (h9 : c = 112 → x0 ≤ 9) (hq : m_hq a c x0 x1 x2 x3) : OkR (m_hw a c x0 x1 x2 x3) ∧ m_hw a c x0 x1 x2 x3 2 ≤ 999 ∧ Zr (m_hw a c x0 x1 x2 x3) := by
  have k9 := ok.1
  have k6 := ok.2.1
  have k2 := ok.2.2.1
  unfold m_hq at hq
  unfold m_hw
  rcases hq with ⟨rfl, q⟩ | ⟨rfl, q⟩ | ⟨rfl, q⟩ | ⟨rfl, q⟩ | ⟨rfl, q⟩ | ⟨rfl, q⟩
  · rw [if_pos rfl]
    obtain ⟨y1, y2⟩ := m_addD_ok (k := x0) (f := x1) ok q.1 (by omega) (by omega) q.2.1 q.2.2.1 q.2.2.2
    exact ⟨y1, by omega, m_addD_z ok q.1 z⟩
  · rw [if_neg (by omega), if_pos rfl]
    obtain ⟨y1, y2⟩ := m_addP_ok (t := x0) ok q.1 (by omega) q.2
    exact ⟨y1, by omega, m_addP_z ok q.1 z⟩
  · rw [if_neg (by omega), if_neg (by omega), if_pos rfl]
    exact ⟨m_open_ok ok q.1 q.2.1 q.2.2, by rw [(m_open_012 q.1.1 (by omega)).2.2]; exact h2, m_open_z z (by omega) (by omega)⟩
  · rw [if_neg (by omega), if_neg (by omega), if_neg (by omega), if_pos rfl]
    exact ⟨m_heats_ok ok (by omega) (by omega), by rw [heats_2 (by omega)]; exact h2, m_heats_z z (by omega)⟩
  · rw [if_neg (by omega), if_neg (by omega), if_neg (by omega), if_neg (by omega), if_pos rfl]
    exact ⟨m_heats_ok ok (by omega) (by omega), by rw [heats_2 (by omega)]; exact h2, m_heats_z z (by omega)⟩
  · rw [if_neg (by omega), if_neg (by omega), if_neg (by omega), if_neg (by omega), if_neg (by omega)]
    obtain ⟨y1, y2⟩ := m_hours_pass ok x0.toNat (by omega)
    exact ⟨y2, by rw [y1.2.2.1]; omega, m_hours_z ok z _ (by omega)⟩
/-- the first letter that does not fit, or -9 -/
def m_fp (w : RW) (n b : Int) : Int := if m_ln (m_at w n b) = 0 then b else m_fi (fun j => decide (¬ m_ft w n j b (m_ln (m_at w n b)))) (m_ln (m_at w n b) - 1).toNat (b + 1)
theorem m_fi_first {p : Int → Bool} : ∀ (k : Nat) (i j : Int), i ≤ j → j < i + k → p j = true → (∀ j', i ≤ j' → j' < j → ¬ p j' = true) → m_fi p k i = j := by
  intro k
  induction k with
  | zero => intro i j h1 h2; omega
  | succ k ih =>
    intro i j h1 h2 hp hn
    unfold m_fi
    by_cases hi : i = j
    · subst hi; rw [if_pos hp]
    · rw [if_neg (hn i (by omega) (by omega))]
      exact ih (i + 1) j (by omega) (by omega) hp (fun j' y1 y2 => hn j' (by omega) y2)
theorem m_ln_b {v : Int} : m_ln v = 0 ∨ (3 ≤ m_ln v ∧ m_ln v ≤ 6) := by unfold m_ln; (repeat' split) <;> omega
theorem m_fp_z {b : Int} (h : m_ln (m_at w n b) = 0) : m_fp w n b = b := by unfold m_fp; rw [if_pos h]
theorem m_fp_bad {b j k : Int} (hk : m_ln (m_at w n b) = k) (h0 : 0 < k) (hj : b < j ∧ j < b + k) (hf : ∀ j', b < j' → j' < j → m_ft w n j' b k) (hn : ¬ m_ft w n j b k) : m_fp w n b = j := by
  unfold m_fp
  rw [if_neg (by omega), hk]
  exact m_fi_first _ _ j (by omega) (by omega) (decide_eq_true hn) (fun j' y1 y2 y3 => (of_decide_eq_true y3) (hf j' (by omega) y2))
theorem m_fp_ok {b k : Int} (hk : m_ln (m_at w n b) = k) (h0 : 0 < k) (hf : ∀ j', b < j' → j' < b + k → m_ft w n j' b k) : m_fp w n b = -9 := by
  unfold m_fp
  rw [if_neg (by omega), hk]
  exact m_fi_none _ _ (fun j' y1 y2 y3 => (of_decide_eq_true y3) (hf j' (by omega) (by omega)))
/-- a statement that fits -/
theorem m_fp_fits {b : Int} (hb : 0 ≤ b) (h : m_fp w n b = -9) : 3 ≤ m_ln (m_at w n b) ∧ m_ln (m_at w n b) ≤ 6 ∧ ∀ j', b < j' → j' < b + m_ln (m_at w n b) → m_ft w n j' b (m_ln (m_at w n b)) := by
  have hl := m_ln_b (v := m_at w n b)
  unfold m_fp at h
  split at h
  · omega
  · refine ⟨by omega, by omega, fun j' y1 y2 => ?_⟩
    by_cases hq : m_ft w n j' b (m_ln (m_at w n b))
    · exact hq
    · have := m_fi_some (p := fun j => decide (¬ m_ft w n j b (m_ln (m_at w n b)))) (m_ln (m_at w n b) - 1).toNat (b + 1) ⟨j', by omega, by omega, decide_eq_true hq⟩
      omega
theorem m_at_in {j : Int} (h : m_at w n j ≠ -9) : 0 ≤ j ∧ j < n := by
  unfold m_at at h
  split at h
  · assumption
  · exact absurd rfl h
theorem m_fp_end {b : Int} (hb : 0 ≤ b) (h : m_fp w n b = -9) : b + m_ln (m_at w n b) ≤ n := by
  obtain ⟨h1, h2, h3⟩ := m_fp_fits hb h
  have := h3 (b + m_ln (m_at w n b) - 1) (by omega) (by omega)
  have h4 : m_at w n (b + m_ln (m_at w n b) - 1) = 59 := by omega
  have h5 := m_at_in (w := w) (n := n) (j := b + m_ln (m_at w n b) - 1) (by omega)
  omega
/-- the fault of the letters from b on, or -9 -/
def m_sl (w : RW) (n : Int) : Nat → Int → Int
  | 0, _ => -9
  | k + 1, b => if m_fp w n b = -9 then (if b + m_ln (m_at w n b) < n then m_sl w n k (b + m_ln (m_at w n b)) else -9) else m_fp w n b
def m_sc (w : RW) (n : Int) : Nat → Int → Int
  | 0, _ => 0
  | k + 1, b => 1 + (if b + m_ln (m_at w n b) < n then m_sc w n k (b + m_ln (m_at w n b)) else 0)
abbrev m_hqa (a w : RW) (n b : Int) : Prop := m_hq a (m_at w n b) (m_x0 w n b) (m_x1 w n b) (m_x2 w n b) (m_x3 w n b)
abbrev m_hwa (a w : RW) (n b : Int) : RW := m_hw a (m_at w n b) (m_x0 w n b) (m_x1 w n b) (m_x2 w n b) (m_x3 w n b)
/-- the first statement that cannot be done, or -9 -/
def m_cf (w : RW) (n : Int) : Nat → Int → RW → Int
  | 0, _, _ => -9
  | k + 1, b, a => if m_hqa a w n b then (if b + m_ln (m_at w n b) < n then m_cf w n k (b + m_ln (m_at w n b)) (m_hwa a w n b) else -9) else b
def m_ca (w : RW) (n : Int) : Nat → Int → RW → RW
  | 0, _, a => a
  | k + 1, b, a => if b + m_ln (m_at w n b) < n then m_ca w n k (b + m_ln (m_at w n b)) (m_hwa a w n b) else m_hwa a w n b
theorem m_hwa_ok {b : Int} (ok : OkR a) (h2 : a 2 ≤ 999) (z : Zr a) (hb : 0 ≤ b) (hf : m_fp w n b = -9) (hq : m_hqa a w n b) : OkR (m_hwa a w n b) ∧ m_hwa a w n b 2 ≤ 999 ∧ Zr (m_hwa a w n b) := by
  obtain ⟨h1, h3, h4⟩ := m_fp_fits hb hf
  have d1 := m_dg_b (w := w) (n := n) (j := b + 1)
  have d2 := m_dg_b (w := w) (n := n) (j := b + 2)
  have hk : m_at w n b = 100 → 0 ≤ m_kind (m_at w n (b + 1)) ∧ m_kind (m_at w n (b + 1)) ≤ 5 := fun h => by
    have := h4 (b + 1) (by omega) (by omega)
    have hne : m_kind (m_at w n (b + 1)) ≠ -9 := by omega
    unfold m_kind at hne ⊢
    (repeat' split) <;> omega
  refine m_hw_ok ok h2 z ?_ ?_ ?_ hq
  · unfold m_x0
    (repeat' split) <;> omega
  · intro h
    unfold m_x0 m_x1
    rw [if_pos h, if_neg (by omega)]
    have := hk h
    omega
  · intro h
    unfold m_x0
    rw [if_neg (by omega), if_neg (by omega)]
    omega
end TELL6

