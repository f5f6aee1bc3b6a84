section OKM
variable {M : KS}
theorem ok_door {d w : Int} (h : OkM M) : OkM (A_door M d w).2 := by unfold A_door; (repeat' split) <;> first | exact h | exact h.ref
theorem ok_person {p w : Int} (h : OkM M) : OkM (A_person M p w).2 := by unfold A_person; (repeat' split) <;> first | exact h | exact h.ref
theorem ok_opens {p d : Int} (h : OkM M) : OkM (A_opens M p d).2 := by
  have ok := h.1
  have n9 := ok.1
  have n6 := ok.2.1
  unfold A_opens
  split
  · exact h.ref
  · split
    · exact h.ref
    · rename_i h1 h2
      have hof : m_of (M 39) d (aP (M 39) p 1) := Decidable.not_not.mp h2
      have z := m_open_012 (a := M 39) (p := p) (d := d) (by omega) (by omega)
      exact h.house (m_open_ok ok (by omega) (by omega) hof) (by rw [z.2.2]; exact h.2.1) (m_open_z h.2.2.1 (by omega) (by omega))
theorem heats_2 {a : RW} {d v p : Int} (hd : 0 ≤ d) : m_heats a d v p 2 = a 2 := by unfold m_heats; rw [ru_n (by omega), ru_n (by omega)]
theorem ok_quarrels {d v p : Int} (h : OkM M) : OkM (A_quarrels M d v p).2 := by
  have ok := h.1
  have n9 := ok.1
  have n6 := ok.2.1
  unfold A_quarrels
  (repeat' split) <;> first | exact h.ref | exact h.house (m_heats_ok ok (by omega) (by omega)) (by rw [heats_2 (by omega)]; exact h.2.1) (m_heats_z h.2.2.1 (by omega))
theorem ok_airs {d : Int} (h : OkM M) : OkM (A_airs M d).2 := by
  have ok := h.1
  have n9 := ok.1
  unfold A_airs
  (repeat' split) <;> first | exact h.ref | exact h.house (m_heats_ok ok (by omega) (by omega)) (by rw [heats_2 (by omega)]; exact h.2.1) (m_heats_z h.2.2.1 (by omega))
theorem ok_moods {p v : Int} (h : OkM M) : OkM (A_moods M p v).2 := by
  have ok := h.1
  have n6 := ok.2.1
  unfold A_moods
  (repeat' split) <;> first | exact h.ref | exact h.house (ok.mood (by omega) (by omega)) (by rw [ru_n (by omega)]; exact h.2.1) (h.2.2.1.ru (by omega))
theorem ok_stands {p o : Int} (h : OkM M) : OkM (A_stands M p o).2 := by
  have ok := h.1
  have n6 := ok.2.1
  unfold A_stands
  (repeat' split) <;> first | exact h.ref | exact h.house (ok.place (by omega) (by omega)) (by rw [ru_n (by omega)]; exact h.2.1) (h.2.2.1.ru (by omega))
theorem ok_turn {d k f : Int} (h : OkM M) : OkM (A_turn M d k f).2 := by
  have ok := h.1
  have n9 := ok.1
  unfold A_turn
  (repeat' split) <;> first | exact h.ref | exact h.house (ru_kf_ok (ru_kf_ok ok (by omega) (by omega) (by omega)) (by rw [ru_n (by omega)]; omega) (by omega) (by omega)) (by rw [ru_n (by omega), ru_n (by omega)]; exact h.2.1) ((h.2.2.1.ru (by omega)).ru (by omega))
theorem ok_hours {n : Int} (h : OkM M) : OkM (A_hours M n).2 := by
  have ok := h.1
  have o2 := ok.2.2.1
  unfold A_hours
  split
  · exact h.ref
  · split
    · exact h.ref
    · obtain ⟨P1, P2⟩ := m_hours_pass ok n.toNat (by omega)
      exact h.house P2 (by rw [P1.2.2.1]; omega) (m_hours_z ok h.2.2.1 _ (by omega))
theorem ok_doorThen {d n w : Int} (h : OkM M) : OkM (A_doorThen M d n w).2 := by unfold A_doorThen; (repeat' split) <;> first | exact h | exact h.ref
theorem ok_moodThen {p n : Int} (h : OkM M) : OkM (A_moodThen M p n).2 := by unfold A_moodThen; (repeat' split) <;> first | exact h | exact h.ref
theorem ok_first {w : Int} (h : OkM M) : OkM (A_first M w).2 := by unfold A_first; (repeat' split) <;> first | exact h | exact h.ref
theorem ok_letter {c : Int} (h : OkM M) : OkM (A_letter M c).2 := by
  unfold A_letter
  split
  · exact h.ref
  · split
    · exact h.ref
    · rename_i h1 h2
      obtain ⟨q1, q2, q3, q4, q5, q6, q7, q8, q9⟩ := h
      have w : ∀ e, e ≠ 38 → e ≠ 43 → kq_up (kq_up M 43 (M 38 8) c) 38 8 (M 38 8 + 1) e = M e := fun e r1 r2 => funext fun j => by rw [kq_up_c r1, kq_up_c r2]
      have w38 : ∀ j, j ≠ 8 → kq_up (kq_up M 43 (M 38 8) c) 38 8 (M 38 8 + 1) 38 j = M 38 j := fun j r1 => by rw [kq_up_i r1, kq_up_c (by decide)]
      show OkM (kq_up (kq_up M 43 (M 38 8) c) 38 8 (M 38 8 + 1))
      unfold OkM
      rw [w 39 (by decide) (by decide), w 41 (by decide) (by decide), w 44 (by decide) (by decide), w38 4 (by decide), w38 9 (by decide), kq_up_s]
      refine ⟨q1, q2, q3, q4, q5, by omega, fun j j0 j1 => ?_, q8, q9⟩
      rw [kq_up_c (show (43 : Nat) ≠ 38 by decide), kq_up_of]
      split
      · omega
      · exact q7 j j0 (by omega)
theorem ok_row {v : Int} (h : OkM M) : OkM (A_row M v).2 := by
  unfold A_row
  split
  · exact h.ref
  · split
    · exact h.ref
    · rename_i h1 h2
      obtain ⟨q1, q2, q3, q4, q5, q6, q7, q8, q9⟩ := h
      have w : ∀ e, e ≠ 38 → e ≠ 44 → kq_up (kq_up M 44 (M 38 9) v) 38 9 (M 38 9 + 1) e = M e := fun e r1 r2 => funext fun j => by rw [kq_up_c r1, kq_up_c r2]
      have w38 : ∀ j, j ≠ 9 → kq_up (kq_up M 44 (M 38 9) v) 38 9 (M 38 9 + 1) 38 j = M 38 j := fun j r1 => by rw [kq_up_i r1, kq_up_c (by decide)]
      show OkM (kq_up (kq_up M 44 (M 38 9) v) 38 9 (M 38 9 + 1))
      unfold OkM
      rw [w 39 (by decide) (by decide), w 41 (by decide) (by decide), w 43 (by decide) (by decide), w38 4 (by decide), w38 8 (by decide), kq_up_s]
      refine ⟨q1, q2, q3, q4, q5, q6, q7, by omega, fun j j0 j1 => ?_⟩
      rw [kq_up_c (show (44 : Nat) ≠ 38 by decide), kq_up_of]
      split
      · omega
      · exact q9 j j0 (by omega)
theorem ok_noRow (h : OkM M) : OkM (kq_up M 38 9 0) := by
  obtain ⟨q1, q2, q3, q4, q5, q6, q7, q8, q9⟩ := h
  have w : ∀ e, e ≠ 38 → kq_up M 38 9 0 e = M e := fun e r1 => funext fun j => by rw [kq_up_c r1]
  have w38 : ∀ j, j ≠ 9 → kq_up M 38 9 0 38 j = M 38 j := fun j r1 => by rw [kq_up_i r1]
  unfold OkM
  rw [w 39 (by decide), w 41 (by decide), w 43 (by decide), w 44 (by decide), w38 4 (by decide), w38 8 (by decide), kq_up_s]
  exact ⟨q1, q2, q3, q4, q5, q6, q7, by omega, fun j j0 j1 => by omega⟩
theorem ok_clear (h : OkM M) : OkM (A_clear M).2 := ok_noRow h
theorem ok_judge (h : OkM M) : OkM (A_judge M).2 := ok_noRow h
theorem ok_voices {p : Int} (h : OkM M) : OkM (A_voices M p).2 := by unfold A_voices; (repeat' split) <;> first | exact h | exact h.ref
theorem ok_image (h : OkM M) : OkM (A_image M).2 := by
  obtain ⟨q1, q2, q3, q4, q5, q6, q7, q8, q9⟩ := h
  have w : ∀ e, e ≠ 38 → e ≠ 41 → kq_up (sr M 41 (M 39)) 38 4 1 e = M e := fun e r1 r2 => funext fun j => by rw [kq_up_c r1, sr_n r2]
  have w38 : ∀ j, j ≠ 4 → kq_up (sr M 41 (M 39)) 38 4 1 38 j = M 38 j := fun j r1 => by rw [kq_up_i r1, sr_n (by decide)]
  have w41 : kq_up (sr M 41 (M 39)) 38 4 1 41 = M 39 := funext fun j => by rw [kq_up_c (by decide), sr_r]
  show OkM (kq_up (sr M 41 (M 39)) 38 4 1)
  unfold OkM
  rw [w 39 (by decide) (by decide), w 43 (by decide) (by decide), w 44 (by decide) (by decide), w41, w38 8 (by decide), w38 9 (by decide), kq_up_s]
  exact ⟨q1, q2, q3, q3, Or.inr ⟨rfl, q1, q2⟩, q6, q7, q8, q9⟩
theorem ok_on (h : OkM M) : OkM (A_on M).2 := by
  unfold A_on
  split
  · exact h.ref
  · rename_i h0
    rcases h.2.2.2.2.1 with h1 | ⟨h1, h2, h3⟩
    · exact absurd h1 h0
    · exact h.house h2 h3 h.2.2.2.1
theorem ok_order {a b d : Int} (h : OkM M) : OkM (A_order M a b d).2 := by unfold A_order; (repeat' split) <;> first | exact h | exact h.ref
theorem ok_echo {a b d : Int} (h : OkM M) : OkM (A_echo M a b d).2 := by unfold A_echo; (repeat' split) <;> first | exact h | exact h.ref
theorem ok_two {a b d : Int} (h : OkM M) : OkM (A_two M a b d).2 := by unfold A_two; split <;> first | exact h | exact h.ref
theorem ok_walk {p w : Int} (h : OkM M) : OkM (A_walk M p w).2 := by unfold A_walk; (repeat' split) <;> first | exact h | exact h.ref
theorem ok_who {d : Int} (h : OkM M) : OkM (A_who M d).2 := by unfold A_who; (repeat' split) <;> first | exact h | exact h.ref
theorem ok_whatIs {d w : Int} (h : OkM M) : OkM (A_whatIs M d w).2 := by unfold A_whatIs; (repeat' split) <;> first | exact h | exact h.ref
theorem ok_lots {n z w : Int} (h : OkM M) : OkM (A_lots M n z w).2 := by unfold A_lots; (repeat' split) <;> first | exact h | exact h.ref
theorem ok_cutOff (h : OkM M) : OkM (A_cutOff M).2 := h
theorem ok_count {w : Int} (h : OkM M) : OkM (A_count M w).2 := h
theorem ok_heard {w : Int} (h : OkM M) : OkM (A_heard M w).2 := by unfold A_heard; (repeat' split) <;> first | exact h | exact h.ref
theorem ok_mean {p : Int} (h : OkM M) : OkM (A_mean M p).2 := by unfold A_mean; (repeat' split) <;> first | exact h | exact h.ref
theorem ok_draught {d n t v p : Int} (h : OkM M) : OkM (A_draught M d n t v p).2 := by unfold A_draught; (repeat' split) <;> first | exact h | exact h.ref
end OKM

