section TIGHT
variable {a g T C : RW}
/-- only the room itself is reached through no door; all else through one -/
def m_TG (a g : RW) (room : Int) (C : RW) : Prop := C room = 0 ∧ ∀ q, 0 ≤ q → q < 7 → q = room ∨ (1 ≤ C q ∧ (C q = 1000000000 ∨ ∃ d, 0 ≤ d ∧ d < a 0 ∧ 0 ≤ g d ∧ m_of a d q ∧ C (m_by a d q) + (100 * g d + 1) ≤ C q))
theorem m_TG_r1 {room x y d : Int} (h : m_PI C) (hx : 0 ≤ x ∧ x < 7) (hy : 0 ≤ y ∧ y < 7) (hd : 0 ≤ d ∧ d < a 0) (hc : 0 ≤ g d) (ho : m_of a d x) (hb : m_by a d x = y) (ht : m_TG a g room C) : m_TG a g room (m_r1 C x y (g d)) := by
  have rx := h.rg hx
  have ry := h.rg hy
  unfold m_rg at rx ry
  by_cases hu : C y + (100 * g d + 1) < C x
  · have e : m_r1 C x y (g d) = ru C x (C y + (100 * g d + 1)) := if_pos hu
    rw [e]
    have hxr : room ≠ x := fun h1 => by
      have := ht.1
      rw [h1] at this
      omega
    refine ⟨by rw [ru_n hxr]; exact ht.1, fun q q0 q1 => ?_⟩
    have hle : ∀ z, ru C x (C y + (100 * g d + 1)) z ≤ C z := fun z => by
      unfold ru; split
      · rename_i h1; rw [h1]; omega
      · exact Int.le_refl _
    by_cases hq : q = x
    · right
      rw [hq, ru_s]
      refine ⟨by omega, Or.inr ⟨d, hd.1, hd.2, hc, ho, ?_⟩⟩
      have := hle (m_by a d x)
      rw [hb] at this
      rw [hb]
      omega
    · rcases ht.2 q q0 q1 with h1 | ⟨h1, h2⟩
      · exact Or.inl h1
      · right
        rw [ru_n hq]
        refine ⟨h1, ?_⟩
        rcases h2 with h2 | ⟨k, k0, k1, k2, k3, k4⟩
        · exact Or.inl h2
        · exact Or.inr ⟨k, k0, k1, k2, k3, by have := hle (m_by a k q); omega⟩
  · have e : m_r1 C x y (g d) = C := if_neg hu
    rw [e]; exact ht
theorem m_TG_rn {room : Int} (ok : OkR a) (hg : ∀ d, 0 ≤ d → d < a 0 → g d ≤ 108) (h : m_PI T) (ht : m_TG a g room T) : ∀ n : Nat, n ≤ (a 0).toNat → m_TG a g room (m_rn a g T n) := by
  have n9 := ok.1
  intro n
  induction n with
  | zero => intro _; exact ht
  | succ n ih =>
    intro hn
    obtain ⟨o1, o2, o3, o4, o5, o6, o7, o8⟩ := ok.2.2.2.1 n (by omega) (by omega)
    have hc8 := hg n (by omega) (by omega)
    have hi := ih (by omega)
    have hp := m_PI_rn ok hg h n (by omega)
    have b1 : m_by a n (aD a n 2) = aD a n 3 := by unfold m_by; omega
    have b2 : m_by a n (aD a n 3) = aD a n 2 := by unfold m_by; omega
    have f1 : m_of a n (aD a n 2) := Or.inl rfl
    have f2 : m_of a n (aD a n 3) := Or.inr rfl
    show m_TG a g room (m_rx (m_rn a g T n) (aD a n 2) (aD a n 3) (g n))
    unfold m_rx
    split
    · exact hi
    · have cc : 0 ≤ g n ∧ g n ≤ 108 := by omega
      exact m_TG_r1 (m_PI_r1 hp (by omega) (by omega) cc) (by omega) (by omega) (by omega) cc.1 f2 b2 (m_TG_r1 hp (by omega) (by omega) (by omega) cc.1 f1 b1 hi)
theorem m_TG_0 {room : Int} : m_TG a g room (m_T0 room) := by
  refine ⟨if_pos rfl, fun q _ _ => ?_⟩
  by_cases h : q = room
  · exact Or.inl h
  · right
    rw [show m_T0 room q = 1000000000 from if_neg h]
    exact ⟨by omega, Or.inl rfl⟩
theorem m_TG_tl {room : Int} (ok : OkR a) (hg : ∀ d, 0 ≤ d → d < a 0 → g d ≤ 108) (hr : 0 ≤ room ∧ room < 7) : m_TG a g room (m_tl a g room) := by
  have key : ∀ n : Nat, m_TG a g room (m_rr a g (m_T0 room) n) := by
    intro n
    induction n with
    | zero => exact m_TG_0
    | succ n ih => exact m_TG_rn ok hg (m_PI_rr ok hg (m_PI_0 hr) n) ih _ (Nat.le_refl _)
  exact key 7
/-- from one end of a door to the other -/
theorem m_tl_by {room d q : Int} (ok : OkR a) (hg : ∀ d, 0 ≤ d → d < a 0 → g d ≤ 108) (hr : 0 ≤ room ∧ room < 7) (hd : 0 ≤ d ∧ d < a 0) (hc : 0 ≤ g d) (ho : m_of a d q) : m_tl a g room q ≤ m_tl a g room (m_by a d q) + (100 * g d + 1) := by
  have he := m_tl_edge ok hg hr hd hc
  rcases ho with h | h
  · rw [show m_by a d q = aD a d 3 by unfold m_by; omega, ← h]; exact he.1
  · rw [show m_by a d q = aD a d 2 by unfold m_by; omega, ← h]; exact he.2
/-- a room with a way that is not the room itself has a first door -/
theorem m_tl_door {room q : Int} (ok : OkR a) (hg : ∀ d, 0 ≤ d → d < a 0 → g d ≤ 108) (hr : 0 ≤ room ∧ room < 7) (hq : 0 ≤ q ∧ q < 7) (hn : q ≠ room) (hf : m_tl a g room q < 1000000000) : ∃ d, 0 ≤ d ∧ d < a 0 ∧ 0 ≤ g d ∧ m_of a d q ∧ m_tl a g room q = m_tl a g room (m_by a d q) + (100 * g d + 1) := by
  rcases (m_TG_tl ok hg hr).2 q hq.1 hq.2 with h | ⟨h1, h2 | ⟨d, d0, d1, d2, d3, d4⟩⟩
  · exact absurd h hn
  · omega
  · have := m_tl_by ok hg hr ⟨d0, d1⟩ d2 d3
    exact ⟨d, d0, d1, d2, d3, by omega⟩
theorem m_tl_0 {room : Int} (ok : OkR a) (hg : ∀ d, 0 ≤ d → d < a 0 → g d ≤ 108) (hr : 0 ≤ room ∧ room < 7) : m_tl a g room room = 0 := (m_TG_tl ok hg hr).1
theorem m_tl_pos {room q : Int} (ok : OkR a) (hg : ∀ d, 0 ≤ d → d < a 0 → g d ≤ 108) (hr : 0 ≤ room ∧ room < 7) (hq : 0 ≤ q ∧ q < 7) (hn : q ≠ room) : 1 ≤ m_tl a g room q := by
  rcases (m_TG_tl ok hg hr).2 q hq.1 hq.2 with h | ⟨h1, _⟩
  · exact absurd h hn
  · exact h1
/-- the doors counted alone -/
def m_dz (a : RW) (room : Int) : RW := m_tl a (fun _ => 0) room
theorem m_dz_tri {u v : Int} (ok : OkR a) (hu : 0 ≤ u ∧ u < 7) (hv : 0 ≤ v ∧ v < 7) : ∀ (n : Nat) (w : Int), 0 ≤ w ∧ w < 7 → m_dz a v w < 1000000000 → m_dz a v w ≤ n → m_dz a u v ≤ m_dz a u w + m_dz a v w := by
  have hg : ∀ d, 0 ≤ d → d < a 0 → (fun _ => 0 : RW) d ≤ 108 := fun d _ _ => by show (0 : Int) ≤ 108; omega
  intro n
  induction n with
  | zero =>
    intro w hw hf hn
    by_cases e : w = v
    · have h0 : m_dz a v v = 0 := m_tl_0 ok hg hv
      rw [e, h0]; omega
    · have : 1 ≤ m_dz a v w := m_tl_pos ok hg hv hw e
      omega
  | succ n ih =>
    intro w hw hf hn
    by_cases e : w = v
    · have h0 : m_dz a v v = 0 := m_tl_0 ok hg hv
      rw [e, h0]; omega
    · obtain ⟨d, d0, d1, d2, d3, d4⟩ := m_tl_door ok hg hv hw e hf
      obtain ⟨y1, y2, -⟩ := m_by_r ok ⟨d0, d1⟩ d3
      have d4 : m_dz a v w = m_dz a v (m_by a d w) + (100 * 0 + 1) := d4
      have hi := ih (m_by a d w) ⟨y1, y2⟩ (by omega) (by omega)
      have hbb : m_by a d (m_by a d w) = w := by unfold m_by; omega
      have hof : m_of a d (m_by a d w) := by unfold m_by; unfold m_of at *; omega
      have hby : m_dz a u (m_by a d w) ≤ m_dz a u (m_by a d (m_by a d w)) + (100 * 0 + 1) := m_tl_by ok hg hu ⟨d0, d1⟩ (Int.le_refl 0) hof
      rw [hbb] at hby
      omega
theorem m_dz_rg {room q : Int} (ok : OkR a) (hr : 0 ≤ room ∧ room < 7) (hq : 0 ≤ q ∧ q < 7) : m_rg (m_dz a room q) := (m_PI_tl ok (fun d _ _ => by show (0 : Int) ≤ 108; omega) hr).rg hq
theorem m_dz_sym {u v : Int} (ok : OkR a) (hu : 0 ≤ u ∧ u < 7) (hv : 0 ≤ v ∧ v < 7) : m_dz a u v = m_dz a v u := by
  have hg : ∀ d, 0 ≤ d → d < a 0 → (fun _ => 0 : RW) d ≤ 108 := fun d _ _ => by show (0 : Int) ≤ 108; omega
  have key : ∀ u v, 0 ≤ u ∧ u < 7 → 0 ≤ v ∧ v < 7 → m_dz a u v ≤ m_dz a v u := fun u v hu hv => by
    have r1 := m_dz_rg ok hu hv
    have r2 := m_dz_rg ok hv hu
    unfold m_rg at r1 r2
    by_cases hf : m_dz a v u < 1000000000
    · have h0 : m_dz a u u = 0 := m_tl_0 ok hg hu
      have := m_dz_tri ok hu hv (m_dz a v u).toNat u hu hf (by omega)
      omega
    · omega
  have := key u v hu hv
  have := key v u hv hu
  omega
end TIGHT

