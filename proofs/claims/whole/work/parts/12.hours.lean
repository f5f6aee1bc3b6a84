/-! hours, one by one and all at once -/
theorem m_to_at {b : RW} {n v : Int} {d w : Int} (hn : 0 ≤ n) (hd : 0 ≤ d) (hw : 0 ≤ w ∧ w < 6) : aD (m_to b n v) d w = if d = n ∧ w = 4 then m_held v else if d = n ∧ w = 5 ∧ v ≤ 0 then 9 else aD b d w := by
  unfold m_to
  by_cases hv : v ≤ 0
  · rw [if_pos hv]; unfold aD ru; (repeat' split) <;> first | rfl | omega
  · rw [if_neg hv]; unfold aD ru; (repeat' split) <;> first | rfl | omega
theorem m_to_out {b : RW} {n v j : Int} (hn : 0 ≤ n ∧ n < 9) (hj : j < 3 ∨ 57 ≤ j) : m_to b n v j = b j := by
  unfold m_to
  by_cases hv : v ≤ 0
  · rw [if_pos hv]; unfold ru; (repeat' split) <;> first | rfl | omega
  · rw [if_neg hv]; unfold ru; (repeat' split) <;> first | rfl | omega
theorem m_hd_at (a : RW) : ∀ n : Nat, n ≤ 9 → (∀ j, (j < 3 ∨ 57 ≤ j) → m_hd a n j = a j) ∧ ∀ d w, 0 ≤ d → d < 9 → 0 ≤ w → w < 6 → aD (m_hd a n) d w = if d < n then aD (m_to a d (aD a d 4 - m_cl a d)) d w else aD a d w := by
  intro n
  induction n with
  | zero => intro _; exact ⟨fun j _ => rfl, fun d w h0 h1 h2 h3 => by rw [if_neg (by omega)]; rfl⟩
  | succ n ih =>
    intro hn
    obtain ⟨i1, i2⟩ := ih (by omega)
    have e : ∀ w, 0 ≤ w → w < 6 → aD (m_hd a n) n w = aD a n w := fun w h2 h3 => by rw [i2 n w (by omega) (by omega) h2 h3, if_neg (by omega)]
    have ec : m_cl (m_hd a n) n = m_cl a n := by unfold m_cl; rw [e 0 (by omega) (by omega), e 1 (by omega) (by omega)]
    have eh : m_hd a (n + 1) = m_to (m_hd a n) n (aD a n 4 - m_cl a n) := by
      show m_to (m_hd a n) n (aD (m_hd a n) n 4 - m_cl (m_hd a n) n) = _
      rw [e 4 (by omega) (by omega), ec]
    rw [eh]
    refine ⟨fun j hj => by rw [m_to_out (by omega) hj]; exact i1 j hj, fun d w h0 h1 h2 h3 => ?_⟩
    rw [m_to_at (by omega) h0 ⟨h2, h3⟩]
    by_cases hd : d = n
    · subst hd
      rw [if_pos (show ((n : Int) < ((n + 1 : Nat) : Int)) by omega), m_to_at (by omega) h0 ⟨h2, h3⟩, e w h2 h3]
    · rw [if_neg (by omega), if_neg (by omega), i2 d w h0 h1 h2 h3]
      by_cases hd2 : d < n
      · rw [if_pos hd2, if_pos (by omega)]
      · rw [if_neg hd2, if_neg (by omega)]
theorem m_hp_at (a : RW) : ∀ n : Nat, n ≤ 6 → (∀ j, (j < 57 ∨ 75 ≤ j) → m_hp a n j = a j) ∧ ∀ p w, 0 ≤ p → p < 6 → 0 ≤ w → w < 3 → aP (m_hp a n) p w = if p < n ∧ w = 2 then m_held (aP a p 2 - 3) else aP a p w := by
  intro n
  induction n with
  | zero => intro _; exact ⟨fun j _ => rfl, fun d w h0 h1 h2 h3 => by rw [if_neg (by omega)]; rfl⟩
  | succ n ih =>
    intro hn
    obtain ⟨i1, i2⟩ := ih (by omega)
    have eh : m_hp a (n + 1) = ru (m_hp a n) (57 + 3 * (n : Int) + 2) (m_held (aP a n 2 - 3)) := by
      show ru (m_hp a n) (57 + 3 * (n : Int) + 2) (m_held (aP (m_hp a n) n 2 - 3)) = _
      rw [i2 n 2 (by omega) (by omega) (by omega) (by omega), if_neg (by omega)]
    rw [eh]
    refine ⟨fun j hj => by rw [ru_n (by omega)]; exact i1 j hj, fun p w h0 h1 h2 h3 => ?_⟩
    by_cases hp : p = n ∧ w = 2
    · obtain ⟨rfl, rfl⟩ := hp
      rw [if_pos (by omega)]
      unfold aP
      exact ru_s
    · have : aP (ru (m_hp a n) (57 + 3 * (n : Int) + 2) (m_held (aP a n 2 - 3))) p w = aP (m_hp a n) p w := by unfold aP; exact ru_n (by omega)
      rw [this, i2 p w h0 h1 h2 h3]
      by_cases h5 : p < n ∧ w = 2
      · rw [if_pos h5, if_pos (by omega)]
      · rw [if_neg h5, if_neg (by omega)]
theorem m_hour_pass {a : RW} (ok : OkR a) : PassOf a 1 (m_hour a) := by
  have h9 := ok.1
  have h6 := ok.2.1
  obtain ⟨x1, x2⟩ := m_hd_at (ru a 2 (a 2 + 1)) (a 0).toNat (by omega)
  obtain ⟨y1, y2⟩ := m_hp_at (m_hd (ru a 2 (a 2 + 1)) (a 0).toNat) (a 1).toNat (by omega)
  have eD : ∀ d w, 0 ≤ d → 0 ≤ w → aD (ru a 2 (a 2 + 1)) d w = aD a d w := fun d w h0 h1 => by unfold aD; exact ru_n (by omega)
  have eP : ∀ p w, 0 ≤ p → 0 ≤ w → aP (ru a 2 (a 2 + 1)) p w = aP a p w := fun d w h0 h1 => by unfold aP; exact ru_n (by omega)
  have ec : ∀ d, 0 ≤ d → m_cl (ru a 2 (a 2 + 1)) d = m_cl a d := fun d h0 => by unfold m_cl; rw [eD d 0 h0 (by omega), eD d 1 h0 (by omega)]
  have z : ∀ d w, 0 ≤ d → d < a 0 → 0 ≤ w → w < 6 → aD (m_hour a) d w = if w = 4 then m_held (aD a d 4 - m_cl a d) else if w = 5 ∧ aD a d 4 - m_cl a d ≤ 0 then 9 else aD a d w := fun d w h0 h1 h2 h3 => by
    have : aD (m_hour a) d w = aD (m_hd (ru a 2 (a 2 + 1)) (a 0).toNat) d w := by unfold aD m_hour; exact y1 _ (by omega)
    rw [this, x2 d w h0 (by omega) h2 h3, if_pos (by omega), m_to_at h0 h0 ⟨h2, h3⟩, eD d 4 h0 (by omega), ec d h0, eD d w h0 h2]
    simp
  refine ⟨?_, ?_, ?_, fun d h0 h1 => ?_, fun p h0 h1 => ?_⟩
  · unfold m_hour; rw [y1 0 (by omega), x1 0 (by omega)]; exact ru_n (by omega)
  · unfold m_hour; rw [y1 1 (by omega), x1 1 (by omega)]; exact ru_n (by omega)
  · unfold m_hour; rw [y1 2 (by omega), x1 2 (by omega)]; exact ru_s
  · obtain ⟨o1, o2, o3, o4, o5, o6, o7, o8⟩ := ok.2.2.2.1 d h0 h1
    have hc : 0 ≤ m_cl a d := (m_cools_b (k := aD a d 0) o2).1
    rw [z d 0 h0 h1 (by omega) (by omega), z d 1 h0 h1 (by omega) (by omega), z d 2 h0 h1 (by omega) (by omega), z d 3 h0 h1 (by omega) (by omega), z d 4 h0 h1 (by omega) (by omega), z d 5 h0 h1 (by omega) (by omega)]
    refine ⟨by simp, by simp, by simp, by simp, ?_, ?_⟩
    · simp only [if_true]; unfold m_held m_mx; (repeat' split) <;> omega
    · have hh : 0 < m_held (aD a d 4 - m_cl a d) ↔ ¬ (aD a d 4 - m_cl a d ≤ 0) := by unfold m_held; (repeat' split) <;> omega
      by_cases hv : aD a d 4 - m_cl a d ≤ 0
      · rw [if_neg (by omega), if_pos ⟨rfl, hv⟩, if_pos rfl, if_neg (fun h => hh.mp h hv)]
      · rw [if_neg (by omega), if_neg (fun h => hv h.2), if_pos rfl, if_pos (hh.mpr hv)]
  · have : ∀ w, 0 ≤ w → w < 3 → aP (m_hour a) p w = if p < (a 1).toNat ∧ w = 2 then m_held (aP a p 2 - 3) else aP a p w := fun w h2 h3 => by
      unfold m_hour
      rw [y2 p w h0 (by omega) h2 h3]
      have q : ∀ w, 0 ≤ w → aP (m_hd (ru a 2 (a 2 + 1)) (a 0).toNat) p w = aP a p w := fun w h2 => by
        rw [← eP p w h0 h2]; unfold aP; exact x1 _ (by omega)
      rw [q 2 (by omega), q w h2]
    obtain ⟨o1, o2, o3⟩ := ok.2.2.2.2 p h0 h1
    rw [this 0 (by omega) (by omega), this 1 (by omega) (by omega), this 2 (by omega) (by omega)]
    refine ⟨by simp, by simp, ?_⟩
    rw [if_pos (by omega)]
    unfold m_held m_mx; (repeat' split) <;> omega
theorem PassOf.ok {a b : RW} {n : Int} (ok : OkR a) (hb : PassOf a n b) (hn : 0 ≤ n) (h2 : a 2 + n ≤ 100000) : OkR b := by
  obtain ⟨b0, b1, b2, bD, bP⟩ := hb
  refine ⟨by rw [b0]; exact ok.1, by rw [b1]; exact ok.2.1, by have := ok.2.2.1; omega, fun d h0 h1 => ?_, fun p h0 h1 => ?_⟩
  · rw [b0] at h1
    obtain ⟨o1, o2, o3, o4, o5, o6, o7, o8⟩ := ok.2.2.2.1 d h0 h1
    obtain ⟨e1, e2, e3, e4, e5, e6⟩ := bD d h0 h1
    have hc : 0 ≤ n * m_cl a d := Int.mul_nonneg hn (m_cools_b (k := aD a d 0) o2).1
    have hm : 0 ≤ aD b d 4 ∧ aD b d 4 ≤ 99 := by rw [e5]; unfold m_mx; split <;> omega
    unfold OkD
    rw [e1, e2, e3, e4]
    refine ⟨o1, o2, o3, o4, o5, hm, ?_, ?_⟩
    · rw [e6]; split <;> omega
    · intro h; rw [e6, if_neg (by omega)]
  · rw [b1] at h1
    obtain ⟨o1, o2, o3⟩ := ok.2.2.2.2 p h0 h1
    obtain ⟨e1, e2, e3⟩ := bP p h0 h1
    unfold OkP
    rw [e1, e2, e3]
    exact ⟨o1, o2, by unfold m_mx; split <;> omega⟩
theorem PassOf.succ {a b e : RW} {n : Int} (ok : OkR a) (hn : 0 ≤ n) (hb : PassOf a n b) (he : PassOf b 1 e) : PassOf a (n + 1) e := by
  obtain ⟨b0, b1, b2, bD, bP⟩ := hb
  obtain ⟨c0, c1, c2, cD, cP⟩ := he
  refine ⟨by rw [c0, b0], by rw [c1, b1], by rw [c2, b2]; omega, fun d h0 h1 => ?_, fun p h0 h1 => ?_⟩
  · obtain ⟨o1, o2, o3, o4, o5, o6, o7, o8⟩ := ok.2.2.2.1 d h0 h1
    obtain ⟨e1, e2, e3, e4, e5, e6⟩ := bD d h0 h1
    obtain ⟨f1, f2, f3, f4, f5, f6⟩ := cD d h0 (by rw [b0]; exact h1)
    have ec : m_cl b d = m_cl a d := by unfold m_cl; rw [e1, e2]
    have hc := (m_cools_b (k := aD a d 0) o2).1
    have hc : 0 ≤ m_cl a d := hc
    rw [ec] at f5
    have hmul : (n + 1) * m_cl a d = n * m_cl a d + m_cl a d := by rw [Int.add_mul, Int.one_mul]
    have h5 : aD e d 4 = m_mx 0 (aD a d 4 - (n + 1) * m_cl a d) := by
      rw [f5, e5, hmul, Int.one_mul]; unfold m_mx; (repeat' split) <;> omega
    refine ⟨by rw [f1, e1], by rw [f2, e2], by rw [f3, e3], by rw [f4, e4], h5, ?_⟩
    have h6 : 0 < aD e d 4 → 0 < aD b d 4 := by
      rw [f5, Int.one_mul]; unfold m_mx; split <;> omega
    rw [f6, e6]
    by_cases hh : 0 < aD e d 4
    · rw [if_pos hh, if_pos hh, if_pos (h6 hh)]
    · rw [if_neg hh, if_neg hh]
  · obtain ⟨e1, e2, e3⟩ := bP p h0 h1
    obtain ⟨f1, f2, f3⟩ := cP p h0 (by rw [b1]; exact h1)
    refine ⟨by rw [f1, e1], by rw [f2, e2], ?_⟩
    rw [f3, e3]
    unfold m_mx; (repeat' split) <;> omega
theorem PassOf.zero {a : RW} (ok : OkR a) : PassOf a 0 a := by
  refine ⟨rfl, rfl, by omega, fun d h0 h1 => ?_, fun p h0 h1 => ?_⟩
  · obtain ⟨o1, o2, o3, o4, o5, o6, o7, o8⟩ := ok.2.2.2.1 d h0 h1
    refine ⟨rfl, rfl, rfl, rfl, ?_, ?_⟩
    · rw [Int.zero_mul]; unfold m_mx; split <;> omega
    · split
      · rfl
      · exact o8 (by omega)
  · obtain ⟨o1, o2, o3⟩ := ok.2.2.2.2 p h0 h1
    refine ⟨rfl, rfl, ?_⟩
    unfold m_mx; split <;> omega
theorem m_hours_pass {a : RW} (ok : OkR a) : ∀ n : Nat, a 2 + n ≤ 100000 → PassOf a n (m_hours a n) ∧ OkR (m_hours a n) := by
  intro n
  induction n with
  | zero => intro _; exact ⟨PassOf.zero ok, ok⟩
  | succ n ih =>
    intro h
    obtain ⟨h1, h2⟩ := ih (by omega)
    have h3 : PassOf a (n + 1) (m_hours a (n + 1)) := PassOf.succ ok (by omega) h1 (m_hour_pass h2)
    exact ⟨by exact_mod_cast h3, h3.ok ok (by omega) (by omega)⟩
def Zr (a : RW) : Prop := ∀ j, (j < 0 ∨ 75 ≤ j) → a j = 0
theorem Zr.ru {a : RW} {i v : Int} (h : Zr a) (hi : 0 ≤ i ∧ i < 75) : Zr (ru a i v) := fun j hj => by rw [ru_n (by omega)]; exact h j hj
theorem m_hour_z {a : RW} (ok : OkR a) (h : Zr a) : Zr (m_hour a) := by
  have h9 := ok.1
  have h6 := ok.2.1
  obtain ⟨x1, x2⟩ := m_hd_at (ru a 2 (a 2 + 1)) (a 0).toNat (by omega)
  obtain ⟨y1, y2⟩ := m_hp_at (m_hd (ru a 2 (a 2 + 1)) (a 0).toNat) (a 1).toNat (by omega)
  intro j hj
  unfold m_hour
  rw [y1 j (by omega), x1 j (by omega), ru_n (by omega)]
  exact h j hj
theorem m_hours_z {a : RW} (ok : OkR a) (h : Zr a) : ∀ n : Nat, a 2 + n ≤ 100000 → Zr (m_hours a n) := by
  intro n
  induction n with
  | zero => intro _; exact h
  | succ n ih => intro h1; exact m_hour_z (m_hours_pass ok n (by omega)).2 (ih (by omega))
theorem m_heats_z {a : RW} {d v p : Int} (h : Zr a) (hd : 0 ≤ d ∧ d < 9) : Zr (m_heats a d v p) := (h.ru (by omega)).ru (by omega)
theorem m_open_z {a : RW} {p d : Int} (h : Zr a) (hp : 0 ≤ p ∧ p < 6) (hd : 0 ≤ d ∧ d < 9) : Zr (m_open a p d) := by
  unfold m_open m_o3 m_o2 m_o1
  exact ((m_heats_z (h.ru (by omega)) hd).ru (by omega)).ru (by omega)

