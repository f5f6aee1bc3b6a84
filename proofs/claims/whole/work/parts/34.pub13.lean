section PUB13
variable {l : Launch} {σ M : KS}
def m_gp (a : RW) (o p : Int) : Int := m_gi (m_tn a o (aP a p 1))
theorem m_gp_b {a : RW} {o p : Int} (ok : OkR a) (ho : 0 ≤ o ∧ o < 7) (hp : 0 ≤ p ∧ p < a 1) : m_gp a o p = -9 ∨ (0 ≤ m_gp a o p ∧ m_gp a o p ≤ 648) := by
  have op := ok.2.2.2.2 p hp.1 hp.2
  unfold OkP at op
  exact m_gi_b ((m_tn_PI ok ho).rg (by omega))
def m_gs (a : RW) (o : Int) : Nat → Int
  | 0 => 0
  | n + 1 => if 1000000000 ≤ m_gs a o n then m_gs a o n else if m_gp a o n < 0 then 1000000000 else m_gs a o n + m_gp a o n
theorem m_gs_s {a : RW} {o i : Int} (h : 0 ≤ i) : m_gs a o (i + 1).toNat = if 1000000000 ≤ m_gs a o i.toNat then m_gs a o i.toNat else if m_gp a o i < 0 then 1000000000 else m_gs a o i.toNat + m_gp a o i := by
  obtain ⟨n, rfl⟩ := Int.eq_ofNat_of_zero_le h
  rfl
theorem m_gs_b {a : RW} {o : Int} (ok : OkR a) (ho : 0 ≤ o ∧ o < 7) : ∀ n : Nat, (n : Int) ≤ a 1 → m_gs a o n = 1000000000 ∨ (0 ≤ m_gs a o n ∧ m_gs a o n ≤ 648 * n) := by
  intro n
  induction n with
  | zero => intro _; exact Or.inr ⟨Int.le_refl _, Int.le_refl _⟩
  | succ n ih =>
    intro h
    have e : m_gs a o (n + 1) = if 1000000000 ≤ m_gs a o n then m_gs a o n else if m_gp a o n < 0 then 1000000000 else m_gs a o n + m_gp a o n := rfl
    have hb := m_gp_b (p := n) ok ho (by omega)
    have n6 := ok.2.1
    rcases ih (by omega) with h1 | h1
    · rw [e, if_pos (by omega)]; exact Or.inl h1
    · rw [e, if_neg (by omega)]
      split <;> omega
theorem m_gs_x {a : RW} {o : Int} {n : Nat} (h : 1000000000 ≤ m_gs a o n) : ∀ k : Nat, m_gs a o (n + k) = m_gs a o n := by
  intro k
  induction k with
  | zero => rfl
  | succ k ih =>
    have e : m_gs a o (n + (k + 1)) = if 1000000000 ≤ m_gs a o (n + k) then m_gs a o (n + k) else if m_gp a o (n + k : Nat) < 0 then 1000000000 else m_gs a o (n + k) + m_gp a o (n + k : Nat) := rfl
    rw [e, ih]; exact if_pos h
theorem m_gs_y {a : RW} {o i e : Int} (hi : 0 ≤ i ∧ i ≤ e) (h : 1000000000 ≤ m_gs a o i.toNat) : m_gs a o e.toNat = m_gs a o i.toNat := by
  rw [show e.toNat = i.toNat + (e.toNat - i.toNat) by omega]
  exact m_gs_x h _
def m_ga2 (a : RW) (o : Int) : Int := m_gs a o (a 1).toNat
theorem m_ga2_b {a : RW} {o : Int} (ok : OkR a) (ho : 0 ≤ o ∧ o < 7) : m_ga2 a o = 1000000000 ∨ (0 ≤ m_ga2 a o ∧ m_ga2 a o ≤ 4000) := by
  have n6 := ok.2.1
  have := m_gs_b ok ho (a 1).toNat (by omega)
  unfold m_ga2
  omega
theorem ev_X4_givenToAll {o : Int} (hM : OkM M) (hC : RC σ M) (ho : 0 ≤ o ∧ o < 7) : Ev l yX4_givenToAll cX4_givenToAll 5 (some .int) 5 116 [kr 0, ki o] σ (fun r τ => r = some (ki (if 1000000000 ≤ m_ga2 (M 39) o then -9 else m_ga2 (M 39) o)) ∧ FrT σ τ) := by
  have R := hC.1
  have ok := hM.1
  have n9 := ok.1
  have n6 := ok.2.1
  have hT := m_tn_PI (room := o) ok ho
  refine ev_intro ym_X4_givenToAll.1 (Nat.le_of_ble_eq_true rfl) (fun hv hσ K S => ?_)
  have hv := hv
  show K 0 [some (kr 0), some (ki o), none, none, none] [] σ
  refine kq_use (kq_for (α := KS) (M 39 1) (fun i τ => 0 ≤ i ∧ FrT σ τ ∧ m_PT τ (m_tn (M 39) o) ∧ m_gs (M 39) o i.toNat < 1000000000) (fun i τ => K 10 [some (kr 0), some (ki o), some (ki (m_gs (M 39) o i.toNat)), some (ki i), none] [] τ) ?_) (fun lp => ?_)
  · intro i τ hi inv ih
    obtain ⟨i0, F, hP, hlt⟩ := inv
    have hsb := m_gs_b (o := o) ok ho i.toNat (by omega)
    have hfin : i = M 39 1 → m_ga2 (M 39) o = m_gs (M 39) o i.toNat := fun e => by rw [e]; rfl
    have hs := m_gs_s (a := M 39) (o := o) i0
    have hy := fun h => m_gs_y (a := M 39) (o := o) (i := i + 1) (e := M 39 1) h
    rw [hs] at ih hy
    generalize m_gs (M 39) o i.toNat = s at *
    have R1 := (hC.fr F).1
    have s0 : τ 1 7 = M 39 1 := R1.2.1
    refine ks_iload_n (n := 11) S dX4_givenToAll_10 rfl rfl ?_
    refine ks_aload_n (n := 12) S dX4_givenToAll_11 rfl rfl ?_
    refine ks_getr (n := 15) S dX4_givenToAll_12 rfl fl_X4_10 rfl rfl ?_
    refine ks_getI (n := 18) (fi := 7) S dX4_givenToAll_15 rfl fl_X4_226 kq_H1.o rfl rfl ?_
    refine ks_icmp_ge (n := 21) (tgt := 60) S dX4_givenToAll_18 rfl rfl (fun h18 => ?_) (fun h18 => ?_)
    · skip
      refine ks_iload_n (n := 61) S dX4_givenToAll_60 rfl rfl ?_
      refine ks_iret S dX4_givenToAll_61 ?_
      exact ⟨by rw [hfin (by omega), if_neg (by omega)], F⟩
    · skip
      have op := ok.2.2.2.2 i i0 (by omega)
      unfold OkP at op
      have f1 := (R1.2.2.2.2 i i0 (by omega)).2.1
      have hrg := hT.rg (r := aP (M 39) i 1) (by omega)
      have hfb := m_f_b hrg
      have hpo : τ 35 (aP (M 39) i 1) = m_f (m_tn (M 39) o (aP (M 39) i 1)) := hP _ (by omega) (by omega)
      have hv : (if 1000000 ≤ τ 35 (aP (M 39) i 1) then -9 else τ 35 (aP (M 39) i 1) / 16) = m_gp (M 39) o i := by rw [hpo, m_f_gi hrg]; rfl
      have hb := m_gp_b (p := i) ok ho ⟨i0, by omega⟩
      rw [if_neg (by omega)] at ih hy
      refine ks_aload_n (n := 22) S dX4_givenToAll_21 rfl rfl ?_
      refine ks_getr (n := 25) S dX4_givenToAll_22 rfl fl_X4_36 rfl rfl ?_
      refine ks_aload_n (n := 26) S dX4_givenToAll_25 rfl rfl ?_
      refine ks_getr (n := 29) S dX4_givenToAll_26 rfl fl_X4_10 rfl rfl ?_
      refine ks_getr (n := 32) S dX4_givenToAll_29 rfl fl_X4_105 kq_H1.o rfl ?_
      refine ks_iload_n (n := 33) S dX4_givenToAll_32 rfl rfl ?_
      refine ks_iaload (n := 34) S dX4_givenToAll_33 rfl kq_H1.a8 (by omega) ?_
      rw [f1]
      refine kf_v1i (n := 37) S dX4_givenToAll_34 rfl ml_X4_167 ym_X3_givenFrom (ev_X3_givenFrom (by omega) (by omega)) (by decide) rfl (Nat.le_of_ble_eq_true rfl) ?_
      rw [hv]
      refine ks_istore (n := 39) S dX4_givenToAll_37 rfl (L' := fun yy => [some (kr 0), some (ki o), some (ki s), some (ki i), some (ki yy)]) (Nat.le_of_ble_eq_true rfl) (fun _ => rfl) (fun v4_37 hv37 => ?_)
      subst v4_37
      refine ks_iload (n := 41) S dX4_givenToAll_39 rfl rfl ?_
      refine ks_bipush (n := 43) S dX4_givenToAll_41 rfl (by unfold iv; decide) ?_
      refine ks_icmp_ne (n := 46) (tgt := 49) S dX4_givenToAll_43 rfl rfl (fun h43 => ?_) (fun h43 => ?_)
      · skip
        refine ks_iload_n (n := 50) S dX4_givenToAll_49 rfl rfl ?_
        refine ks_iload (n := 52) S dX4_givenToAll_50 rfl rfl ?_
        refine ks_iadd (n := 53) S dX4_givenToAll_52 rfl (by omega) ?_
        refine ks_istore_n (n := 54) S dX4_givenToAll_53 rfl rfl (L' := fun yy => [some (kr 0), some (ki o), some (ki yy), some (ki i), some (ki _)]) (Nat.le_of_ble_eq_true rfl) (fun _ => rfl) (fun v2_53 hv53 => ?_)
        subst v2_53
        refine ks_iinc (n := 57) S dX4_givenToAll_54 rfl rfl (by omega) (L' := fun yy => [some (kr 0), some (ki o), some (ki _), some (ki yy), some (ki _)]) (fun _ => rfl) (fun v3_54 hv54 => ?_)
        subst v3_54
        refine ks_goto (n := 10) S dX4_givenToAll_57 rfl ?_
        refine ks_weak (L' := [some (kr 0), some (ki o), some (ki _), some (ki _), none]) S ((And.intro rfl (And.intro rfl (And.intro rfl (And.intro rfl True.intro))))) ?_
        rw [if_neg (by omega)] at ih
        exact ih _ (by omega) ⟨by omega, F, hP, by omega⟩
      · skip
        refine ks_bipush (n := 48) S dX4_givenToAll_46 rfl (by unfold iv; decide) ?_
        refine ks_iret S dX4_givenToAll_48 ?_
        rw [if_pos (by omega)] at hy
        have := hy ⟨by omega, by omega⟩ (by omega)
        exact ⟨by rw [if_pos (show 1000000000 ≤ m_ga2 (M 39) o by unfold m_ga2; omega)], F⟩
  refine ks_aload_n (n := 1) S dX4_givenToAll_0 rfl rfl ?_
  refine ks_iload_n (n := 2) S dX4_givenToAll_1 rfl rfl ?_
  refine ks_iconst (n := 3) S dX4_givenToAll_2 rfl (by unfold iv; decide) ?_
  refine ks_v2v (n := 6) S dX4_givenToAll_3 rfl ml_X4_164 ym_X4_findWaysTo (ev_X4_findWaysTo (g := m_gv (M 39)) hM hC (by omega) (by omega) (fun d d0 d1 => (m_ga_0 ok ⟨d0, d1⟩).symm)) (by decide) rfl (Nat.le_of_ble_eq_true rfl) (fun τ3 q3 => ?_)
  obtain ⟨q1, F, hP, hgd⟩ := q3
  refine ks_iconst (n := 7) S dX4_givenToAll_6 rfl (by unfold iv; decide) ?_
  refine ks_istore_n (n := 8) S dX4_givenToAll_7 rfl rfl (L' := fun yy => [some (kr 0), some (ki o), some (ki yy), none, none]) (Nat.le_of_ble_eq_true rfl) (fun _ => rfl) (fun v2_7 hv7 => ?_)
  obtain rfl : v2_7 = 0 := by omega
  refine ks_iconst (n := 9) S dX4_givenToAll_8 rfl (by unfold iv; decide) ?_
  refine ks_istore_n (n := 10) S dX4_givenToAll_9 rfl rfl (L' := fun yy => [some (kr 0), some (ki o), some (ki (0)), some (ki yy), none]) (Nat.le_of_ble_eq_true rfl) (fun _ => rfl) (fun v3_9 hv9 => ?_)
  obtain rfl : v3_9 = 0 := by omega
  exact lp 0 _ n6.1 ⟨by omega, F, hP, by show (0 : Int) < _; omega⟩
def m_me (a : RW) : Nat → Int × Int
  | 0 => (-9, 1000000000)
  | n + 1 => if m_ga2 a n < (m_me a n).2 then ((n : Int), m_ga2 a n) else m_me a n
theorem m_me_s {a : RW} {i : Int} (h : 0 ≤ i) : m_me a (i + 1).toNat = if m_ga2 a i < (m_me a i.toNat).2 then (i, m_ga2 a i) else m_me a i.toNat := by
  obtain ⟨n, rfl⟩ := Int.eq_ofNat_of_zero_le h
  rfl
theorem m_me_b {a : RW} (ok : OkR a) : ∀ n : Nat, n ≤ 7 → ((m_me a n).1 = -9 ∧ (m_me a n).2 = 1000000000) ∨ (0 ≤ (m_me a n).1 ∧ 0 ≤ (m_me a n).2 ∧ (m_me a n).2 ≤ 4000) := by
  intro n
  induction n with
  | zero => intro _; exact Or.inl ⟨rfl, rfl⟩
  | succ n ih =>
    intro h
    have e : m_me a (n + 1) = if m_ga2 a n < (m_me a n).2 then ((n : Int), m_ga2 a n) else m_me a n := rfl
    have hb := m_ga2_b (o := n) ok (by omega)
    have hi := ih (by omega)
    rw [e]
    split
    · right
      refine ⟨by dsimp only; omega, by dsimp only; omega, by dsimp only; omega⟩
    · exact hi
def A_meet (M : KS) (w : Int) : Int × KS := if ¬ (0 ≤ w ∧ w ≤ 1) then (-2, rfM M (-2)) else (if (m_me (M 39) 7).1 < 0 ∨ w = 0 then (m_me (M 39) 7).1 else (m_me (M 39) 7).2, M)
theorem pc_meet {w : Int} (hM : OkM M) (hC : RC σ M) : Ev l yX4_meet cX4_meet 6 (some .int) 6 140 [kr 0, ki w] σ (QC (A_meet M w) σ) := by
  have R := hC.1
  have ok := hM.1
  have n9 := ok.1
  have n6 := ok.2.1
  refine ev_intro ym_X4_meet.1 (Nat.le_of_ble_eq_true rfl) (fun hv hσ K S => ?_)
  have hv := hv
  show K 0 [some (kr 0), some (ki w), none, none, none, none] [] σ
  refine kq_use (fun (hw : 0 ≤ w ∧ w ≤ 1) => kq_for (α := KS) 7 (fun i τ => 0 ≤ i ∧ FrT σ τ) (fun i τ => K 25 [some (kr 0), some (ki w), some (ki (m_me (M 39) i.toNat).1), some (ki (if (m_me (M 39) i.toNat).1 < 0 then -9 else (m_me (M 39) i.toNat).2)), some (ki i), none] [] τ) ?_) (fun lp => ?_)
  · intro i τ hi inv ih
    obtain ⟨i0, F⟩ := inv
    have hsb := m_me_b ok i.toNat (by omega)
    have hfin : i = 7 → m_me (M 39) 7 = m_me (M 39) i.toNat := fun e => by rw [e]; rfl
    rw [m_me_s i0] at ih
    generalize m_me (M 39) i.toNat = s at *
    obtain ⟨b, z⟩ := s
    dsimp only at hsb ih ⊢
    obtain ⟨z', hz'⟩ : ∃ z', z' = (if b < 0 then -9 else z) := ⟨_, rfl⟩
    rw [← hz']
    have hz2 : (b = -9 ∧ z = 1000000000 ∧ z' = -9) ∨ (0 ≤ b ∧ 0 ≤ z ∧ z ≤ 4000 ∧ z' = z) := by split at hz' <;> omega
    refine ks_iload (n := 27) S dX4_meet_25 rfl rfl ?_
    refine ks_bipush (n := 29) S dX4_meet_27 rfl (by unfold iv; decide) ?_
    refine ks_icmp_ge (n := 32) (tgt := 71) S dX4_meet_29 rfl rfl (fun h29 => ?_) (fun h29 => ?_)
    · skip
      refine ks_iload_n (n := 72) S dX4_meet_71 rfl rfl ?_
      refine ks_if_ne (n := 75) (tgt := 79) S dX4_meet_72 rfl rfl (fun h72 => ?_) (fun h72 => ?_)
      · skip
        refine ks_iload_n (n := 80) S dX4_meet_79 rfl rfl ?_
        refine ks_iret S dX4_meet_80 ?_
        refine qc_t hC F ?_
        unfold A_meet; rw [if_neg (by omega), hfin (by omega)]
        refine congrArg (fun y => (y, M)) ?_
        dsimp only
        split <;> omega
      · skip
        refine ks_iload_n (n := 76) S dX4_meet_75 rfl rfl ?_
        refine ks_goto (n := 80) S dX4_meet_76 rfl ?_
        refine ks_iret S dX4_meet_80 ?_
        refine qc_t hC F ?_
        unfold A_meet; rw [if_neg (by omega), hfin (by omega)]
        refine congrArg (fun y => (y, M)) ?_
        dsimp only
        split <;> omega
    · skip
      refine ks_aload_n (n := 33) S dX4_meet_32 rfl rfl ?_
      refine ks_iload (n := 35) S dX4_meet_33 rfl rfl ?_
      refine ks_v1i (n := 38) S dX4_meet_35 rfl ml_X4_234 ym_X4_givenToAll (ev_X4_givenToAll hM (hC.fr F) (by omega)) (by decide) rfl (Nat.le_of_ble_eq_true rfl) (fun r35 τ35 q35 => ?_)
      obtain ⟨q1, F1⟩ := q35
      have q1 := kq_si q1
      have F2 := F.tr F1
      have hb := m_ga2_b (o := i) ok (by omega)
      generalize m_ga2 (M 39) i = t at *
      have q2 : (t = 1000000000 ∧ r35 = -9) ∨ (t ≤ 4000 ∧ 0 ≤ t ∧ r35 = t) := by split at q1 <;> omega
      clear q1
      refine ks_istore (n := 40) S dX4_meet_38 rfl (L' := fun yy => [some (kr 0), some (ki w), some (ki b), some (ki z'), some (ki i), some (ki yy)]) (Nat.le_of_ble_eq_true rfl) (fun _ => rfl) (fun v5_38 hv38 => ?_)
      subst v5_38
      refine ks_iload (n := 42) S dX4_meet_40 rfl rfl ?_
      refine ks_bipush (n := 44) S dX4_meet_42 rfl (by unfold iv; decide) ?_
      refine ks_icmp_eq (n := 47) (tgt := 65) S dX4_meet_44 rfl rfl (fun h44 => ?_) (fun h44 => ?_)
      · skip
        refine ks_iinc (n := 68) S dX4_meet_65 rfl rfl (by omega) (L' := fun yy => [some (kr 0), some (ki w), some (ki b), some (ki z'), some (ki yy), some (ki _)]) (fun _ => rfl) (fun v4_65 hv65 => ?_)
        subst v4_65
        refine ks_goto (n := 25) S dX4_meet_68 rfl ?_
        refine ks_weak (L' := [some (kr 0), some (ki w), some (ki b), some (ki z'), some (ki _), none]) S ((And.intro rfl (And.intro rfl (And.intro rfl (And.intro rfl (And.intro rfl True.intro)))))) ?_
        first | (rw [if_neg (by omega)] at ih; dsimp only at ih; rw [← hz'] at ih; exact ih _ (by omega) ⟨by omega, F2⟩) | (rw [if_pos (by omega)] at ih; dsimp only at ih; rw [if_neg (by omega), show t = r35 by omega] at ih; exact ih _ (by omega) ⟨by omega, F2⟩)
      · skip
        refine ks_iload_n (n := 48) S dX4_meet_47 rfl rfl ?_
        refine ks_bipush (n := 50) S dX4_meet_48 rfl (by unfold iv; decide) ?_
        refine ks_icmp_eq (n := 53) (tgt := 59) S dX4_meet_50 rfl rfl (fun h50 => ?_) (fun h50 => ?_)
        · skip
          refine ks_iload (n := 61) S dX4_meet_59 rfl rfl ?_
          refine ks_istore_n (n := 62) S dX4_meet_61 rfl rfl (L' := fun yy => [some (kr 0), some (ki w), some (ki yy), some (ki z'), some (ki i), some (ki _)]) (Nat.le_of_ble_eq_true rfl) (fun _ => rfl) (fun v2_61 hv61 => ?_)
          subst v2_61
          refine ks_iload (n := 64) S dX4_meet_62 rfl rfl ?_
          refine ks_istore_n (n := 65) S dX4_meet_64 rfl rfl (L' := fun yy => [some (kr 0), some (ki w), some (ki _), some (ki yy), some (ki i), some (ki _)]) (Nat.le_of_ble_eq_true rfl) (fun _ => rfl) (fun v3_64 hv64 => ?_)
          subst v3_64
          refine ks_iinc (n := 68) S dX4_meet_65 rfl rfl (by omega) (L' := fun yy => [some (kr 0), some (ki w), some (ki _), some (ki _), some (ki yy), some (ki _)]) (fun _ => rfl) (fun v4_65 hv65 => ?_)
          subst v4_65
          refine ks_goto (n := 25) S dX4_meet_68 rfl ?_
          refine ks_weak (L' := [some (kr 0), some (ki w), some (ki _), some (ki _), some (ki _), none]) S ((And.intro rfl (And.intro rfl (And.intro rfl (And.intro rfl (And.intro rfl True.intro)))))) ?_
          first | (rw [if_neg (by omega)] at ih; dsimp only at ih; rw [← hz'] at ih; exact ih _ (by omega) ⟨by omega, F2⟩) | (rw [if_pos (by omega)] at ih; dsimp only at ih; rw [if_neg (by omega), show t = r35 by omega] at ih; exact ih _ (by omega) ⟨by omega, F2⟩)
        · skip
          refine ks_iload (n := 55) S dX4_meet_53 rfl rfl ?_
          refine ks_iload_n (n := 56) S dX4_meet_55 rfl rfl ?_
          refine ks_icmp_ge (n := 59) (tgt := 65) S dX4_meet_56 rfl rfl (fun h56 => ?_) (fun h56 => ?_)
          · skip
            refine ks_iinc (n := 68) S dX4_meet_65 rfl rfl (by omega) (L' := fun yy => [some (kr 0), some (ki w), some (ki b), some (ki z'), some (ki yy), some (ki _)]) (fun _ => rfl) (fun v4_65 hv65 => ?_)
            subst v4_65
            refine ks_goto (n := 25) S dX4_meet_68 rfl ?_
            refine ks_weak (L' := [some (kr 0), some (ki w), some (ki b), some (ki z'), some (ki _), none]) S ((And.intro rfl (And.intro rfl (And.intro rfl (And.intro rfl (And.intro rfl True.intro)))))) ?_
            first | (rw [if_neg (by omega)] at ih; dsimp only at ih; rw [← hz'] at ih; exact ih _ (by omega) ⟨by omega, F2⟩) | (rw [if_pos (by omega)] at ih; dsimp only at ih; rw [if_neg (by omega), show t = r35 by omega] at ih; exact ih _ (by omega) ⟨by omega, F2⟩)
          · skip
            refine ks_iload (n := 61) S dX4_meet_59 rfl rfl ?_
            refine ks_istore_n (n := 62) S dX4_meet_61 rfl rfl (L' := fun yy => [some (kr 0), some (ki w), some (ki yy), some (ki z'), some (ki i), some (ki _)]) (Nat.le_of_ble_eq_true rfl) (fun _ => rfl) (fun v2_61 hv61 => ?_)
            subst v2_61
            refine ks_iload (n := 64) S dX4_meet_62 rfl rfl ?_
            refine ks_istore_n (n := 65) S dX4_meet_64 rfl rfl (L' := fun yy => [some (kr 0), some (ki w), some (ki _), some (ki yy), some (ki i), some (ki _)]) (Nat.le_of_ble_eq_true rfl) (fun _ => rfl) (fun v3_64 hv64 => ?_)
            subst v3_64
            refine ks_iinc (n := 68) S dX4_meet_65 rfl rfl (by omega) (L' := fun yy => [some (kr 0), some (ki w), some (ki _), some (ki _), some (ki yy), some (ki _)]) (fun _ => rfl) (fun v4_65 hv65 => ?_)
            subst v4_65
            refine ks_goto (n := 25) S dX4_meet_68 rfl ?_
            refine ks_weak (L' := [some (kr 0), some (ki w), some (ki _), some (ki _), some (ki _), none]) S ((And.intro rfl (And.intro rfl (And.intro rfl (And.intro rfl (And.intro rfl True.intro)))))) ?_
            first | (rw [if_neg (by omega)] at ih; dsimp only at ih; rw [← hz'] at ih; exact ih _ (by omega) ⟨by omega, F2⟩) | (rw [if_pos (by omega)] at ih; dsimp only at ih; rw [if_neg (by omega), show t = r35 by omega] at ih; exact ih _ (by omega) ⟨by omega, F2⟩)
  refine ks_iload_n (n := 1) S dX4_meet_0 rfl rfl ?_
  refine ks_if_eq (n := 4) (tgt := 16) S dX4_meet_1 rfl rfl (fun h1 => ?_) (fun h1 => ?_)
  · skip
    refine ks_bipush (n := 18) S dX4_meet_16 rfl (by unfold iv; decide) ?_
    refine ks_istore_n (n := 19) S dX4_meet_18 rfl rfl (L' := fun yy => [some (kr 0), some (ki w), some (ki yy), none, none, none]) (Nat.le_of_ble_eq_true rfl) (fun _ => rfl) (fun v2_18 hv18 => ?_)
    obtain rfl : v2_18 = -9 := by omega
    refine ks_bipush (n := 21) S dX4_meet_19 rfl (by unfold iv; decide) ?_
    refine ks_istore_n (n := 22) S dX4_meet_21 rfl rfl (L' := fun yy => [some (kr 0), some (ki w), some (ki (-9)), some (ki yy), none, none]) (Nat.le_of_ble_eq_true rfl) (fun _ => rfl) (fun v3_21 hv21 => ?_)
    obtain rfl : v3_21 = -9 := by omega
    refine ks_iconst (n := 23) S dX4_meet_22 rfl (by unfold iv; decide) ?_
    refine ks_istore (n := 25) S dX4_meet_23 rfl (L' := fun yy => [some (kr 0), some (ki w), some (ki (-9)), some (ki (-9)), some (ki yy), none]) (Nat.le_of_ble_eq_true rfl) (fun _ => rfl) (fun v4_23 hv23 => ?_)
    obtain rfl : v4_23 = 0 := by omega
    exact lp (by omega) 0 _ (by omega) ⟨by omega, FrT.rf⟩
  · skip
    refine ks_iload_n (n := 5) S dX4_meet_4 rfl rfl ?_
    refine ks_iconst (n := 6) S dX4_meet_5 rfl (by unfold iv; decide) ?_
    refine ks_icmp_eq (n := 9) (tgt := 16) S dX4_meet_6 rfl rfl (fun h6 => ?_) (fun h6 => ?_)
    · skip
      refine ks_bipush (n := 18) S dX4_meet_16 rfl (by unfold iv; decide) ?_
      refine ks_istore_n (n := 19) S dX4_meet_18 rfl rfl (L' := fun yy => [some (kr 0), some (ki w), some (ki yy), none, none, none]) (Nat.le_of_ble_eq_true rfl) (fun _ => rfl) (fun v2_18 hv18 => ?_)
      obtain rfl : v2_18 = -9 := by omega
      refine ks_bipush (n := 21) S dX4_meet_19 rfl (by unfold iv; decide) ?_
      refine ks_istore_n (n := 22) S dX4_meet_21 rfl rfl (L' := fun yy => [some (kr 0), some (ki w), some (ki (-9)), some (ki yy), none, none]) (Nat.le_of_ble_eq_true rfl) (fun _ => rfl) (fun v3_21 hv21 => ?_)
      obtain rfl : v3_21 = -9 := by omega
      refine ks_iconst (n := 23) S dX4_meet_22 rfl (by unfold iv; decide) ?_
      refine ks_istore (n := 25) S dX4_meet_23 rfl (L' := fun yy => [some (kr 0), some (ki w), some (ki (-9)), some (ki (-9)), some (ki yy), none]) (Nat.le_of_ble_eq_true rfl) (fun _ => rfl) (fun v4_23 hv23 => ?_)
      obtain rfl : v4_23 = 0 := by omega
      exact lp (by omega) 0 _ (by omega) ⟨by omega, FrT.rf⟩
    · skip
      refine ks_aload_n (n := 10) S dX4_meet_9 rfl rfl ?_
      refine ks_bipush (n := 12) S dX4_meet_10 rfl (by unfold iv; decide) ?_
      refine kf_v1i (n := 15) S dX4_meet_12 rfl ml_X4_51 ym_X4_refuse (ev_X4_refuse (by omega)) (by decide) rfl (Nat.le_of_ble_eq_true rfl) ?_
      refine ks_iret S dX4_meet_15 ?_
      exact qc_r hC (by omega) (by unfold A_meet; rw [if_pos (by omega)])
theorem pr_meet {w : Int} (hM : OkM M) (hR : RR σ M) : Ev l yX5_meet cX5_meet 8 (some .int) 5 116 [kr 38, ki w] σ (QR (A_meet M w) σ) := by
  have e39 : σ 39 = M 39 := hR.1
  have ok : OkR (σ 39) := by rw [e39]; exact hM.1
  have n9 := ok.1
  have n6 := ok.2.1
  have z40 := hR.2.2.2.2.2.2.2.2.1
  refine ev_intro ym_X5_meet.1 (Nat.le_of_ble_eq_true rfl) (fun hv hσ K S => ?_)
  have hv := hv
  show K 0 [some (kr 38), some (ki w), none, none, none, none, none, none] [] σ
  refine kq_use (fun (hw : 0 ≤ w ∧ w ≤ 1) => kq_for (α := KS) 7 (fun i τ => 0 ≤ i ∧ FrQ σ τ) (fun i τ => K 25 [some (kr 38), some (ki w), some (ki (m_me (σ 39) i.toNat).1), some (ki (m_me (σ 39) i.toNat).2), some (ki i), none, none, none] [] τ) ?_) (fun lp => ?_)
  · intro i τ hi inv ih
    obtain ⟨i0, F⟩ := inv
    have hsb := m_me_b ok i.toNat (by omega)
    have hfin : i = 7 → m_me (σ 39) 7 = m_me (σ 39) i.toNat := fun e => by rw [e]; rfl
    rw [m_me_s i0] at ih
    generalize m_me (σ 39) i.toNat = s at *
    obtain ⟨b, z⟩ := s
    dsimp only at hsb ih ⊢
    refine kq_use (fun (hi7 : i < 7) => kq_for (α := KS) (σ 39 1) (fun j ρ => 0 ≤ j ∧ FrQ σ ρ) (fun j ρ => K 38 [some (kr 38), some (ki w), some (ki b), some (ki z), some (ki i), some (ki (m_gs (σ 39) i j.toNat)), some (ki j), none] [] ρ) ?_) (fun lp2 => ?_)
    · intro j ρ hj inv2 ih2
      obtain ⟨j0, F2⟩ := inv2
      have gsb := m_gs_b (o := i) ok ⟨i0, hi7⟩ j.toNat (by omega)
      have hfin2 : j = σ 39 1 ∨ 1000000000 ≤ m_gs (σ 39) i j.toNat → m_ga2 (σ 39) i = m_gs (σ 39) i j.toNat := fun e => by
        rcases e with e | e
        · rw [e]; rfl
        · exact m_gs_y ⟨j0, hj⟩ e
      rw [m_gs_s j0] at ih2
      generalize m_gs (σ 39) i j.toNat = t at *
      have f39 : ρ 39 = σ 39 := F2.1 39 (by omega)
      have s1 : ρ 39 1 = σ 39 1 := by rw [f39]
      refine ks_iload (n := 40) S dX5_meet_38 rfl rfl ?_
      refine ks_aload_n (n := 41) S dX5_meet_40 rfl rfl ?_
      refine ks_getr (n := 44) S dX5_meet_41 rfl fl_X5_9 rfl rfl ?_
      refine ks_iconst (n := 45) S dX5_meet_44 rfl (by unfold iv; decide) ?_
      refine ks_iaload (n := 46) S dX5_meet_45 rfl rfl (by omega) ?_
      refine ks_icmp_ge (n := 49) (tgt := 104) S dX5_meet_46 rfl rfl (fun h46 => ?_) (fun h46 => ?_)
      · skip
        refine ks_iload (n := 106) S dX5_meet_104 rfl rfl ?_
        refine ks_iload_n (n := 107) S dX5_meet_106 rfl rfl ?_
        refine ks_icmp_lt (n := 110) (tgt := 113) S dX5_meet_107 rfl rfl (fun h107 => ?_) (fun h107 => ?_)
        · skip
          refine ks_iload (n := 115) S dX5_meet_113 rfl rfl ?_
          refine ks_istore_n (n := 116) S dX5_meet_115 rfl rfl (L' := fun yy => [some (kr 38), some (ki w), some (ki yy), some (ki z), some (ki i), some (ki t), some (ki j), none]) (Nat.le_of_ble_eq_true rfl) (fun _ => rfl) (fun v2_115 hv115 => ?_)
          subst v2_115
          refine ks_iload (n := 118) S dX5_meet_116 rfl rfl ?_
          refine ks_istore_n (n := 119) S dX5_meet_118 rfl rfl (L' := fun yy => [some (kr 38), some (ki w), some (ki _), some (ki yy), some (ki i), some (ki t), some (ki j), none]) (Nat.le_of_ble_eq_true rfl) (fun _ => rfl) (fun v3_118 hv118 => ?_)
          subst v3_118
          refine ks_iinc (n := 122) S dX5_meet_119 rfl rfl (by omega) (L' := fun yy => [some (kr 38), some (ki w), some (ki _), some (ki _), some (ki yy), some (ki t), some (ki j), none]) (fun _ => rfl) (fun v4_119 hv119 => ?_)
          subst v4_119
          refine ks_goto (n := 25) S dX5_meet_122 rfl ?_
          refine ks_weak (L' := [some (kr 38), some (ki w), some (ki _), some (ki _), some (ki _), none, none, none]) S ((And.intro rfl (And.intro rfl (And.intro rfl (And.intro rfl (And.intro rfl True.intro)))))) ?_
          rw [hfin2 (by omega)] at ih
          first | (rw [if_neg (by omega)] at ih; exact ih _ (by omega) ⟨by omega, F2⟩) | (rw [if_pos (by omega)] at ih; exact ih _ (by omega) ⟨by omega, F2⟩)
        · skip
          refine ks_goto (n := 119) S dX5_meet_110 rfl ?_
          refine ks_iinc (n := 122) S dX5_meet_119 rfl rfl (by omega) (L' := fun yy => [some (kr 38), some (ki w), some (ki b), some (ki z), some (ki yy), some (ki t), some (ki j), none]) (fun _ => rfl) (fun v4_119 hv119 => ?_)
          subst v4_119
          refine ks_goto (n := 25) S dX5_meet_122 rfl ?_
          refine ks_weak (L' := [some (kr 38), some (ki w), some (ki b), some (ki z), some (ki _), none, none, none]) S ((And.intro rfl (And.intro rfl (And.intro rfl (And.intro rfl (And.intro rfl True.intro)))))) ?_
          rw [hfin2 (by omega)] at ih
          first | (rw [if_neg (by omega)] at ih; exact ih _ (by omega) ⟨by omega, F2⟩) | (rw [if_pos (by omega)] at ih; exact ih _ (by omega) ⟨by omega, F2⟩)
      · skip
        refine ks_iload (n := 51) S dX5_meet_49 rfl rfl ?_
        refine ks_ldc (n := 53) (x := 1000000000) S dX5_meet_51 rfl ct_X5_37 (by unfold iv; decide +kernel) ?_
        refine ks_icmp_ge (n := 56) (tgt := 104) S dX5_meet_53 rfl rfl (fun h53 => ?_) (fun h53 => ?_)
        · skip
          refine ks_iload (n := 106) S dX5_meet_104 rfl rfl ?_
          refine ks_iload_n (n := 107) S dX5_meet_106 rfl rfl ?_
          refine ks_icmp_lt (n := 110) (tgt := 113) S dX5_meet_107 rfl rfl (fun h107 => ?_) (fun h107 => ?_)
          · skip
            refine ks_iload (n := 115) S dX5_meet_113 rfl rfl ?_
            refine ks_istore_n (n := 116) S dX5_meet_115 rfl rfl (L' := fun yy => [some (kr 38), some (ki w), some (ki yy), some (ki z), some (ki i), some (ki t), some (ki j), none]) (Nat.le_of_ble_eq_true rfl) (fun _ => rfl) (fun v2_115 hv115 => ?_)
            subst v2_115
            refine ks_iload (n := 118) S dX5_meet_116 rfl rfl ?_
            refine ks_istore_n (n := 119) S dX5_meet_118 rfl rfl (L' := fun yy => [some (kr 38), some (ki w), some (ki _), some (ki yy), some (ki i), some (ki t), some (ki j), none]) (Nat.le_of_ble_eq_true rfl) (fun _ => rfl) (fun v3_118 hv118 => ?_)
            subst v3_118
            refine ks_iinc (n := 122) S dX5_meet_119 rfl rfl (by omega) (L' := fun yy => [some (kr 38), some (ki w), some (ki _), some (ki _), some (ki yy), some (ki t), some (ki j), none]) (fun _ => rfl) (fun v4_119 hv119 => ?_)
            subst v4_119
            refine ks_goto (n := 25) S dX5_meet_122 rfl ?_
            refine ks_weak (L' := [some (kr 38), some (ki w), some (ki _), some (ki _), some (ki _), none, none, none]) S ((And.intro rfl (And.intro rfl (And.intro rfl (And.intro rfl (And.intro rfl True.intro)))))) ?_
            rw [hfin2 (by omega)] at ih
            first | (rw [if_neg (by omega)] at ih; exact ih _ (by omega) ⟨by omega, F2⟩) | (rw [if_pos (by omega)] at ih; exact ih _ (by omega) ⟨by omega, F2⟩)
          · skip
            refine ks_goto (n := 119) S dX5_meet_110 rfl ?_
            refine ks_iinc (n := 122) S dX5_meet_119 rfl rfl (by omega) (L' := fun yy => [some (kr 38), some (ki w), some (ki b), some (ki z), some (ki yy), some (ki t), some (ki j), none]) (fun _ => rfl) (fun v4_119 hv119 => ?_)
            subst v4_119
            refine ks_goto (n := 25) S dX5_meet_122 rfl ?_
            refine ks_weak (L' := [some (kr 38), some (ki w), some (ki b), some (ki z), some (ki _), none, none, none]) S ((And.intro rfl (And.intro rfl (And.intro rfl (And.intro rfl (And.intro rfl True.intro)))))) ?_
            rw [hfin2 (by omega)] at ih
            first | (rw [if_neg (by omega)] at ih; exact ih _ (by omega) ⟨by omega, F2⟩) | (rw [if_pos (by omega)] at ih; exact ih _ (by omega) ⟨by omega, F2⟩)
        · skip
          have op := ok.2.2.2.2 j j0 (by omega)
          unfold OkP at op
          have f1 : ρ 39 (57 + 3 * j + 1) = aP (σ 39) j 1 := by rw [f39]; rfl
          have hb := m_gp_b (p := j) ok ⟨i0, hi7⟩ ⟨j0, by omega⟩
          refine ks_aload_n (n := 57) S dX5_meet_56 rfl rfl ?_
          refine ks_aload_n (n := 58) S dX5_meet_57 rfl rfl ?_
          refine ks_getr (n := 61) S dX5_meet_58 rfl fl_X5_9 rfl rfl ?_
          refine ks_aload_n (n := 62) S dX5_meet_61 rfl rfl ?_
          refine ks_getr (n := 65) S dX5_meet_62 rfl fl_X5_9 rfl rfl ?_
          refine ks_iload (n := 67) S dX5_meet_65 rfl rfl ?_
          refine ks_iconst (n := 68) S dX5_meet_67 rfl (by unfold iv; decide) ?_
          refine kf_s2i (n := 71) S dX5_meet_68 rfl ml_X5_55 ym_X5_ofP (ev_X5_ofP (by omega) (by omega)) (by decide) (Nat.le_of_ble_eq_true rfl) ?_
          refine ks_iaload (n := 72) S dX5_meet_71 rfl rfl (by omega) ?_
          rw [f1]
          refine ks_iload (n := 74) S dX5_meet_72 rfl rfl ?_
          refine ks_bipush (n := 76) S dX5_meet_74 rfl (by unfold iv; decide) ?_
          refine ks_v4i (n := 79) S dX5_meet_76 rfl ml_X5_184 ym_X5_givenBy (ev_X5_givenBy rfl (by decide) (by rw [f39]; exact ok) (by omega) ⟨i0, hi7⟩) (by decide) rfl (Nat.le_of_ble_eq_true rfl) (fun r76 τ76 q76 => ?_)
          obtain ⟨q1, F3⟩ := q76
          have q1 := kq_si q1
          rw [f39, m_tl_9 ok] at q1
          replace q1 : r76 = m_gp (σ 39) i j := q1
          subst q1
          have F4 := F2.tr (FrQ.t47 F3 F2.2.2.2.2)
          rw [if_neg (by omega)] at ih2
          refine ks_istore (n := 81) S dX5_meet_79 rfl (L' := fun yy => [some (kr 38), some (ki w), some (ki b), some (ki z), some (ki i), some (ki t), some (ki j), some (ki yy)]) (Nat.le_of_ble_eq_true rfl) (fun _ => rfl) (fun v7_79 hv79 => ?_)
          subst v7_79
          refine ks_iload (n := 83) S dX5_meet_81 rfl rfl ?_
          refine ks_if_ge (n := 86) (tgt := 91) S dX5_meet_83 rfl rfl (fun h83 => ?_) (fun h83 => ?_)
          · skip
            refine ks_iload (n := 93) S dX5_meet_91 rfl rfl ?_
            refine ks_iload (n := 95) S dX5_meet_93 rfl rfl ?_
            refine ks_iadd (n := 96) S dX5_meet_95 rfl (by omega) ?_
            refine ks_istore (n := 98) S dX5_meet_96 rfl (L' := fun yy => [some (kr 38), some (ki w), some (ki b), some (ki z), some (ki i), some (ki yy), some (ki j), some (ki _)]) (Nat.le_of_ble_eq_true rfl) (fun _ => rfl) (fun v5_96 hv96 => ?_)
            subst v5_96
            refine ks_iinc (n := 101) S dX5_meet_98 rfl rfl (by omega) (L' := fun yy => [some (kr 38), some (ki w), some (ki b), some (ki z), some (ki i), some (ki _), some (ki yy), some (ki _)]) (fun _ => rfl) (fun v6_98 hv98 => ?_)
            subst v6_98
            refine ks_goto (n := 38) S dX5_meet_101 rfl ?_
            refine ks_weak (L' := [some (kr 38), some (ki w), some (ki b), some (ki z), some (ki i), some (ki _), some (ki _), none]) S ((And.intro rfl (And.intro rfl (And.intro rfl (And.intro rfl (And.intro rfl (And.intro rfl (And.intro rfl True.intro)))))))) ?_
            first | (rw [if_neg (by omega)] at ih2; exact ih2 _ (by omega) ⟨by omega, F4⟩) | (rw [if_pos (by omega)] at ih2; exact ih2 _ (by omega) ⟨by omega, F4⟩)
          · skip
            refine ks_ldc (n := 88) (x := 1000000000) S dX5_meet_86 rfl ct_X5_37 (by unfold iv; decide +kernel) ?_
            refine ks_goto (n := 96) S dX5_meet_88 rfl ?_
            refine ks_istore (n := 98) S dX5_meet_96 rfl (L' := fun yy => [some (kr 38), some (ki w), some (ki b), some (ki z), some (ki i), some (ki yy), some (ki j), some (ki _)]) (Nat.le_of_ble_eq_true rfl) (fun _ => rfl) (fun v5_96 hv96 => ?_)
            subst v5_96
            refine ks_iinc (n := 101) S dX5_meet_98 rfl rfl (by omega) (L' := fun yy => [some (kr 38), some (ki w), some (ki b), some (ki z), some (ki i), some (ki _), some (ki yy), some (ki _)]) (fun _ => rfl) (fun v6_98 hv98 => ?_)
            subst v6_98
            refine ks_goto (n := 38) S dX5_meet_101 rfl ?_
            refine ks_weak (L' := [some (kr 38), some (ki w), some (ki b), some (ki z), some (ki i), some (ki _), some (ki _), none]) S ((And.intro rfl (And.intro rfl (And.intro rfl (And.intro rfl (And.intro rfl (And.intro rfl (And.intro rfl True.intro)))))))) ?_
            first | (rw [if_neg (by omega)] at ih2; exact ih2 _ (by omega) ⟨by omega, F4⟩) | (rw [if_pos (by omega)] at ih2; exact ih2 _ (by omega) ⟨by omega, F4⟩)
    refine ks_iload (n := 27) S dX5_meet_25 rfl rfl ?_
    refine ks_bipush (n := 29) S dX5_meet_27 rfl (by unfold iv; decide) ?_
    refine ks_icmp_ge (n := 32) (tgt := 125) S dX5_meet_29 rfl rfl (fun h29 => ?_) (fun h29 => ?_)
    · skip
      refine ks_iload_n (n := 126) S dX5_meet_125 rfl rfl ?_
      refine ks_if_lt (n := 129) (tgt := 133) S dX5_meet_126 rfl rfl (fun h126 => ?_) (fun h126 => ?_)
      · skip
        refine ks_iload_n (n := 134) S dX5_meet_133 rfl rfl ?_
        refine ks_goto (n := 138) S dX5_meet_134 rfl ?_
        refine ks_iret S dX5_meet_138 ?_
        refine qr_t hR F ?_
        unfold A_meet; rw [← e39, if_neg (by omega), hfin (by omega)]
        refine congrArg (fun y => (y, M)) ?_
        dsimp only
        split <;> omega
      · skip
        refine ks_iload_n (n := 130) S dX5_meet_129 rfl rfl ?_
        refine ks_if_ne (n := 133) (tgt := 137) S dX5_meet_130 rfl rfl (fun h130 => ?_) (fun h130 => ?_)
        · skip
          refine ks_iload_n (n := 138) S dX5_meet_137 rfl rfl ?_
          refine ks_iret S dX5_meet_138 ?_
          refine qr_t hR F ?_
          unfold A_meet; rw [← e39, if_neg (by omega), hfin (by omega)]
          refine congrArg (fun y => (y, M)) ?_
          dsimp only
          split <;> omega
        · skip
          refine ks_iload_n (n := 134) S dX5_meet_133 rfl rfl ?_
          refine ks_goto (n := 138) S dX5_meet_134 rfl ?_
          refine ks_iret S dX5_meet_138 ?_
          refine qr_t hR F ?_
          unfold A_meet; rw [← e39, if_neg (by omega), hfin (by omega)]
          refine congrArg (fun y => (y, M)) ?_
          dsimp only
          split <;> omega
    · skip
      refine ks_iconst (n := 33) S dX5_meet_32 rfl (by unfold iv; decide) ?_
      refine ks_istore (n := 35) S dX5_meet_33 rfl (L' := fun yy => [some (kr 38), some (ki w), some (ki b), some (ki z), some (ki i), some (ki yy), none, none]) (Nat.le_of_ble_eq_true rfl) (fun _ => rfl) (fun v5_33 hv33 => ?_)
      obtain rfl : v5_33 = 0 := by omega
      refine ks_iconst (n := 36) S dX5_meet_35 rfl (by unfold iv; decide) ?_
      refine ks_istore (n := 38) S dX5_meet_36 rfl (L' := fun yy => [some (kr 38), some (ki w), some (ki b), some (ki z), some (ki i), some (ki (0)), some (ki yy), none]) (Nat.le_of_ble_eq_true rfl) (fun _ => rfl) (fun v6_36 hv36 => ?_)
      obtain rfl : v6_36 = 0 := by omega
      exact lp2 (by omega) 0 _ n6.1 ⟨by omega, F⟩
  refine ks_iload_n (n := 1) S dX5_meet_0 rfl rfl ?_
  refine ks_iconst (n := 2) S dX5_meet_1 rfl (by unfold iv; decide) ?_
  refine ks_iconst (n := 3) S dX5_meet_2 rfl (by unfold iv; decide) ?_
  refine kf_s3z (n := 6) S dX5_meet_3 rfl ml_X5_44 ym_X5_isIn (ev_X5_isIn) (by decide) (Nat.le_of_ble_eq_true rfl) ?_
  refine ks_if_ne (n := 9) (tgt := 16) S dX5_meet_6 rfl rfl (fun h6 => ?_) (fun h6 => ?_)
  · skip
    simp only [bi_eq, bi_ne, Classical.not_not] at h6
    refine ks_bipush (n := 18) S dX5_meet_16 rfl (by unfold iv; decide) ?_
    refine ks_istore_n (n := 19) S dX5_meet_18 rfl rfl (L' := fun yy => [some (kr 38), some (ki w), some (ki yy), none, none, none, none, none]) (Nat.le_of_ble_eq_true rfl) (fun _ => rfl) (fun v2_18 hv18 => ?_)
    obtain rfl : v2_18 = -9 := by omega
    refine ks_ldc (n := 21) (x := 1000000000) S dX5_meet_19 rfl ct_X5_37 (by unfold iv; decide +kernel) ?_
    refine ks_istore_n (n := 22) S dX5_meet_21 rfl rfl (L' := fun yy => [some (kr 38), some (ki w), some (ki (-9)), some (ki yy), none, none, none, none]) (Nat.le_of_ble_eq_true rfl) (fun _ => rfl) (fun v3_21 hv21 => ?_)
    subst v3_21
    refine ks_iconst (n := 23) S dX5_meet_22 rfl (by unfold iv; decide) ?_
    refine ks_istore (n := 25) S dX5_meet_23 rfl (L' := fun yy => [some (kr 38), some (ki w), some (ki (-9)), some (ki _), some (ki yy), none, none, none]) (Nat.le_of_ble_eq_true rfl) (fun _ => rfl) (fun v4_23 hv23 => ?_)
    obtain rfl : v4_23 = 0 := by omega
    exact lp (by omega) 0 _ (by omega) ⟨by omega, FrQ.rf z40⟩
  · skip
    simp only [bi_eq, bi_ne, Classical.not_not] at h6
    refine ks_aload_n (n := 10) S dX5_meet_9 rfl rfl ?_
    refine ks_bipush (n := 12) S dX5_meet_10 rfl (by unfold iv; decide) ?_
    refine kf_v1i (n := 15) S dX5_meet_12 rfl ml_X5_38 ym_X5_no (ev_X5_no (by omega)) (by decide) rfl (Nat.le_of_ble_eq_true rfl) ?_
    refine ks_iret S dX5_meet_15 ?_
    exact qr_r hR (by unfold A_meet; rw [if_pos (by omega)])
theorem ok_meet {w : Int} (h : OkM M) : OkM (A_meet M w).2 := by unfold A_meet; (repeat' split) <;> first | exact h | exact h.ref
end PUB13

