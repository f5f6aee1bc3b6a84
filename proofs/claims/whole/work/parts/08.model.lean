/-! THE MODEL: a house is a row (as the reference's); what happens to it is a function on rows -/
abbrev RW : Type := Int → Int
def ru (a : RW) (i v : Int) : RW := fun j => if j = i then v else a j
def aD (a : RW) (d w : Int) : Int := a (3 + 6 * d + w)
def aP (a : RW) (p w : Int) : Int := a (57 + 3 * p + w)
def m_held (v : Int) : Int := if v < 0 then 0 else if 99 < v then 99 else v
def m_gv (a : RW) (d : Int) : Int := m_gives (aD a d 0) (aD a d 1) (aD a d 4)
def m_kp (a : RW) (d s : Int) : Int := m_keeps (aD a d 0) (aD a d 1) s
def m_cl (a : RW) (d : Int) : Int := m_cools (aD a d 0) (aD a d 1)
def m_says (a : RW) (p : Int) : Int := aP a p 2 / 2 + aP a p 0
def m_heats (a : RW) (d v p : Int) : RW := ru (ru a (3 + 6 * d + 4) (m_held v)) (3 + 6 * d + 5) (if 0 < v then p else 9)
def m_to (a : RW) (d v : Int) : RW := if v ≤ 0 then ru (ru a (3 + 6 * d + 4) (m_held v)) (3 + 6 * d + 5) 9 else ru a (3 + 6 * d + 4) (m_held v)
abbrev m_of (a : RW) (d r : Int) : Prop := aD a d 2 = r ∨ aD a d 3 = r
def m_by (a : RW) (d r : Int) : Int := aD a d 2 + aD a d 3 - r
def m_o1 (a : RW) (p d : Int) : RW := ru a (57 + 3 * p + 2) (m_held (aP a p 2 + m_gv a d))
def m_o2 (a : RW) (p d : Int) : RW := m_heats (m_o1 a p d) d (m_kp (m_o1 a p d) d (m_says (m_o1 a p d) p)) p
def m_o3 (a : RW) (p d : Int) : RW := ru (m_o2 a p d) (57 + 3 * p + 1) (m_by (m_o2 a p d) d (aP (m_o2 a p d) p 1))
def m_open (a : RW) (p d : Int) : RW := ru (m_o3 a p d) (57 + 3 * p + 2) (m_held (aP (m_o3 a p d) p 2 - 5))
/-- the doors below n are an hour cooler -/
def m_hd (a : RW) : Nat → RW
  | 0 => a
  | n + 1 => m_to (m_hd a n) n (aD (m_hd a n) n 4 - m_cl (m_hd a n) n)
def m_hp (a : RW) : Nat → RW
  | 0 => a
  | n + 1 => ru (m_hp a n) (57 + 3 * (n : Int) + 2) (m_held (aP (m_hp a n) n 2 - 3))
def m_hour (a : RW) : RW := m_hp (m_hd (ru a 2 (a 2 + 1)) (a 0).toNat) (a 1).toNat
def m_hours (a : RW) : Nat → RW
  | 0 => a
  | n + 1 => m_hour (m_hours a n)
def m_sum (f : Int → Int) : Nat → Int
  | 0 => 0
  | n + 1 => m_sum f n + f n
def m_allH (a : RW) : Int := m_sum (fun d => aD a d 4) (a 0).toNat
def m_allM (a : RW) : Int := m_sum (fun p => aP a p 2) (a 1).toNat
/-- a row as it must be -/
def OkD (a : RW) (d : Int) : Prop := (0 ≤ aD a d 0 ∧ aD a d 0 ≤ 5) ∧ (0 ≤ aD a d 1 ∧ aD a d 1 ≤ 9) ∧ (0 ≤ aD a d 2 ∧ aD a d 2 ≤ 6) ∧ (0 ≤ aD a d 3 ∧ aD a d 3 ≤ 6) ∧ aD a d 2 ≠ aD a d 3 ∧ (0 ≤ aD a d 4 ∧ aD a d 4 ≤ 99) ∧ (0 ≤ aD a d 5 ∧ aD a d 5 ≤ 9) ∧ (aD a d 4 = 0 → aD a d 5 = 9)
def OkP (a : RW) (p : Int) : Prop := (0 ≤ aP a p 0 ∧ aP a p 0 ≤ 9) ∧ (0 ≤ aP a p 1 ∧ aP a p 1 ≤ 6) ∧ (0 ≤ aP a p 2 ∧ aP a p 2 ≤ 99)
def OkR (a : RW) : Prop := (0 ≤ a 0 ∧ a 0 ≤ 9) ∧ (0 ≤ a 1 ∧ a 1 ≤ 6) ∧ (0 ≤ a 2 ∧ a 2 ≤ 100000) ∧ (∀ d, 0 ≤ d → d < a 0 → OkD a d) ∧ ∀ p, 0 ≤ p → p < a 1 → OkP a p
/-- a House of the class holds a row -/
def RepH (σ : KS) (c : Nat) (a : RW) : Prop := σ c 0 = a 0 ∧ σ c 7 = a 1 ∧ σ c 11 = a 2 ∧ (∀ d, 0 ≤ d → d < a 0 → σ (c + 1) d = aD a d 0 ∧ σ (c + 2) d = aD a d 1 ∧ σ (c + 3) d = aD a d 2 ∧ σ (c + 4) d = aD a d 3 ∧ σ (c + 5) d = aD a d 4 ∧ σ (c + 6) d = aD a d 5) ∧ ∀ p, 0 ≤ p → p < a 1 → σ (c + 7) p = aP a p 0 ∧ σ (c + 8) p = aP a p 1 ∧ σ (c + 9) p = aP a p 2
/-- only the House at c changes -/
def FrH (c : Nat) (σ τ : KS) : Prop := ∀ c' i, (c' < c ∨ c + 9 < c') → τ c' i = σ c' i
theorem FrH.rf {c : Nat} {σ : KS} : FrH c σ σ := fun _ _ _ => rfl
theorem FrH.tr {c : Nat} {σ τ ρ : KS} (h1 : FrH c σ τ) (h2 : FrH c τ ρ) : FrH c σ ρ := fun c' i h => (h2 c' i h).trans (h1 c' i h)
theorem FrH.up {c d : Nat} {σ τ : KS} {i v : Int} (h : FrH c σ τ) (h1 : c ≤ d) (h2 : d ≤ c + 9) : FrH c σ (kq_up τ d i v) := fun c' j h' => by
  rw [kq_up_c (by omega)]; exact h c' j h'
theorem RepH.fr {c d : Nat} {σ τ : KS} {a : RW} (h : RepH σ d a) (hf : FrH c σ τ) (hd : d + 9 < c ∨ c + 9 < d) : RepH τ d a := by
  obtain ⟨h1, h2, h3, h4, h5⟩ := h
  refine ⟨by rw [hf _ _ (by omega)]; exact h1, by rw [hf _ _ (by omega)]; exact h2, by rw [hf _ _ (by omega)]; exact h3, fun k k0 k1 => ?_, fun k k0 k1 => ?_⟩
  · obtain ⟨e1, e2, e3, e4, e5, e6⟩ := h4 k k0 k1
    exact ⟨by rw [hf _ _ (by omega)]; exact e1, by rw [hf _ _ (by omega)]; exact e2, by rw [hf _ _ (by omega)]; exact e3, by rw [hf _ _ (by omega)]; exact e4, by rw [hf _ _ (by omega)]; exact e5, by rw [hf _ _ (by omega)]; exact e6⟩
  · obtain ⟨e1, e2, e3⟩ := h5 k k0 k1
    exact ⟨by rw [hf _ _ (by omega)]; exact e1, by rw [hf _ _ (by omega)]; exact e2, by rw [hf _ _ (by omega)]; exact e3⟩
theorem m_sg_b {f h : Int} (hf : 0 ≤ f ∧ f ≤ 9) (hh : 0 ≤ h ∧ h ≤ 99) : 0 ≤ m_sg f h ∧ m_sg f h ≤ 108 := by unfold m_sg; split <;> omega
theorem m_gives_b {k f h : Int} (hf : 0 ≤ f ∧ f ≤ 9) (hh : 0 ≤ h ∧ h ≤ 99) : 0 ≤ m_gives k f h ∧ m_gives k f h ≤ 108 := by
  have := m_sg_b hf hh
  unfold m_gives; (repeat' split) <;> omega
theorem m_keeps_b {k f s : Int} (hf : 0 ≤ f ∧ f ≤ 9) (hs : 0 ≤ s) : 0 ≤ m_keeps k f s ∧ m_keeps k f s ≤ s + 9 := by
  unfold m_keeps; (repeat' split) <;> omega
theorem m_cools_b {k f : Int} (hf : 0 ≤ f ∧ f ≤ 9) : 0 ≤ m_cools k f ∧ m_cools k f ≤ 11 := by
  unfold m_cools; (repeat' split) <;> omega
theorem m_held_b (v : Int) : 0 ≤ m_held v ∧ m_held v ≤ 99 := by unfold m_held; (repeat' split) <;> omega
theorem ru_s {a : RW} {i v : Int} : ru a i v i = v := if_pos rfl
theorem ru_n {a : RW} {i j v : Int} (h : j ≠ i) : ru a i v j = a j := if_neg h
/-- an opening, place by place -/
theorem m_open_at {a : RW} {p d : Int} (hd : 0 ≤ d ∧ d < 9) (hp : 0 ≤ p) (j : Int) : m_open a p d j =
    if j = 57 + 3 * p + 2 then m_held (m_held (aP a p 2 + m_gv a d) - 5)
    else if j = 57 + 3 * p + 1 then aD a d 2 + aD a d 3 - aP a p 1
    else if j = 3 + 6 * d + 5 then (if 0 < m_kp a d (m_held (aP a p 2 + m_gv a d) / 2 + aP a p 0) then p else 9)
    else if j = 3 + 6 * d + 4 then m_held (m_kp a d (m_held (aP a p 2 + m_gv a d) / 2 + aP a p 0))
    else a j := by
  have e1 : ∀ w, 0 ≤ w → w < 6 → aD (m_o1 a p d) d w = aD a d w := fun w h1 h2 => by
    unfold aD m_o1; exact ru_n (by omega)
  have e2 : aP (m_o1 a p d) p 2 = m_held (aP a p 2 + m_gv a d) := by unfold aP m_o1; exact ru_s
  have e3 : aP (m_o1 a p d) p 0 = aP a p 0 := by unfold aP m_o1; exact ru_n (by omega)
  have e4 : aP (m_o1 a p d) p 1 = aP a p 1 := by unfold aP m_o1; exact ru_n (by omega)
  have e5 : m_kp (m_o1 a p d) d (m_says (m_o1 a p d) p) = m_kp a d (m_held (aP a p 2 + m_gv a d) / 2 + aP a p 0) := by
    unfold m_kp m_says; rw [e1 0 (by omega) (by omega), e1 1 (by omega) (by omega), e2, e3]
  have f1 : ∀ w, 0 ≤ w → w < 4 → aD (m_o2 a p d) d w = aD a d w := fun w h1 h2 => by
    rw [← e1 w h1 (by omega)]; unfold aD m_o2 m_heats; rw [ru_n (by omega), ru_n (by omega)]
  have f2 : ∀ w, 0 ≤ w → w < 3 → aP (m_o2 a p d) p w = aP (m_o1 a p d) p w := fun w h1 h2 => by
    unfold aP m_o2 m_heats; rw [ru_n (by omega), ru_n (by omega)]
  have f3 : aP (m_o3 a p d) p 2 = m_held (aP a p 2 + m_gv a d) := by
    rw [← e2, ← f2 2 (by omega) (by omega)]; unfold aP m_o3; exact ru_n (by omega)
  unfold m_open
  by_cases h1 : j = 57 + 3 * p + 2
  · rw [if_pos h1, h1, ru_s, f3]
  rw [if_neg h1, ru_n h1]
  unfold m_o3
  by_cases h2 : j = 57 + 3 * p + 1
  · rw [if_pos h2, h2, ru_s]
    unfold m_by
    rw [f1 2 (by omega) (by omega), f1 3 (by omega) (by omega), f2 1 (by omega) (by omega), e4]
  rw [if_neg h2, ru_n h2]
  unfold m_o2 m_heats
  rw [e5]
  by_cases h3 : j = 3 + 6 * d + 5
  · rw [if_pos h3, h3, ru_s]
  rw [if_neg h3, ru_n h3]
  by_cases h4 : j = 3 + 6 * d + 4
  · rw [if_pos h4, h4, ru_s]
  rw [if_neg h4, ru_n h4]
  unfold m_o1
  exact ru_n h1

