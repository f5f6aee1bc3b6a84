section GOES2
variable {l : Launch} {σ M : KS} {a T : RW}
theorem m_open_pl {p d : Int} (hp : 0 ≤ p) (hd : 0 ≤ d ∧ d < 9) : aP (m_open a p d) p 1 = m_by a d (aP a p 1) := by
  unfold aP
  rw [m_open_at hd hp, if_neg (by omega), if_pos (by omega)]
  rfl
/-- the house after n steps of p on the best way -/
def m_gw (a T : RW) (p : Int) : Nat → RW
  | 0 => a
  | n + 1 => m_open (m_gw a T p n) p (m_fd1 a T (aP (m_gw a T p n) p 1))
theorem m_gw_s {p i : Int} (h : 0 ≤ i) : m_gw a T p (i + 1).toNat = m_open (m_gw a T p i.toNat) p (m_fd1 a T (aP (m_gw a T p i.toNat) p 1)) := by
  obtain ⟨n, rfl⟩ := Int.eq_ofNat_of_zero_le h
  rfl
def m_GI (a b : RW) (room p k : Int) : Prop := OkR b ∧ Zr b ∧ (b 0 = a 0 ∧ b 1 = a 1 ∧ b 2 = a 2) ∧ (∀ e w, 0 ≤ e → e < 9 → 0 ≤ w → w < 4 → aD b e w = aD a e w) ∧ (0 ≤ aP b p 1 ∧ aP b p 1 < 7) ∧ m_tn a room (aP b p 1) < 1000000000 ∧ m_tn a room (aP b p 1) % 100 = k
theorem m_GI_s {b : RW} {room p k : Int} (ok : OkR a) (hr : 0 ≤ room ∧ room < 7) (hp : 0 ≤ p ∧ p < a 1) (hk : 0 < k) (h : m_GI a b room p k) : (0 ≤ m_fd1 a (m_tn a room) (aP b p 1) ∧ m_fd1 a (m_tn a room) (aP b p 1) < a 0) ∧ m_of b (m_fd1 a (m_tn a room) (aP b p 1)) (aP b p 1) ∧ m_GI a (m_open b p (m_fd1 a (m_tn a room) (aP b p 1))) room p (k - 1) := by
  obtain ⟨okb, zb, ⟨b0, b1, b2⟩, hD, hat, hfin, hmod⟩ := h
  have n9 := ok.1
  have n6 := ok.2.1
  have hg : ∀ d, 0 ≤ d → d < a 0 → m_gv a d ≤ 108 := fun d d0 d1 => (m_gv_b ok ⟨d0, d1⟩).2
  have hn : aP b p 1 ≠ room := fun e => by
    have : m_tn a room room = 0 := m_tl_0 ok hg hr
    rw [e, this] at hmod
    omega
  obtain ⟨s1, s2, s3⟩ := m_fd1_s ok hr hat hn hfin
  generalize m_fd1 a (m_tn a room) (aP b p 1) = d at *
  have d2 := hD d 2 s1.1 (by omega) (by omega) (by omega)
  have d3 := hD d 3 s1.1 (by omega) (by omega) (by omega)
  have hof : m_of b d (aP b p 1) := by unfold m_of; rw [d2, d3]; exact s2
  have hby : m_by b d (aP b p 1) = m_by a d (aP b p 1) := by unfold m_by; rw [d2, d3]
  obtain ⟨y1, y2, -⟩ := m_by_r ok s1 s2
  have hgv := m_gv_b ok s1
  have rg := (m_tn_PI ok hr).rg ⟨y1, y2⟩
  unfold m_rg at rg
  have hd9 : 0 ≤ d ∧ d < 9 := by omega
  obtain ⟨z0, z1, z2⟩ := m_open_012 (a := b) (p := p) (d := d) hp.1 hd9
  refine ⟨s1, hof, m_open_ok okb (by omega) (by omega) hof, m_open_z zb (by omega) hd9, ⟨by omega, by omega, by omega⟩, fun e w e0 e1 w0 w1 => ?_, ?_, ?_, ?_⟩
  · rw [m_open_D hp.1 hd9 ⟨e0, e1⟩ ⟨w0, w1⟩]; exact hD e w e0 e1 w0 w1
  · rw [m_open_pl hp.1 hd9, hby]; exact ⟨y1, y2⟩
  · rw [m_open_pl hp.1 hd9, hby]; omega
  · rw [m_open_pl hp.1 hd9, hby]; omega
end GOES2

