section WAYS4
variable {l : Launch} {σ : KS} {a g : RW} {c r : Nat}
/-- may a best way begin with the door? -/
def m_pd (a g T : RW) (o : Int) (d : Int) : Bool := decide (m_of a d o ∧ T o = T (m_by a d o) + (100 * g d + 1))
theorem m_by_r {d o : Int} (ok : OkR a) (hd : 0 ≤ d ∧ d < a 0) (h : m_of a d o) : 0 ≤ m_by a d o ∧ m_by a d o < 7 ∧ (if aD a d 2 = o then aD a d 3 else aD a d 2) = m_by a d o := by
  obtain ⟨o1, o2, o3, o4, o5, o6, o7, o8⟩ := ok.2.2.2.1 d hd.1 hd.2
  unfold m_by
  unfold m_of at h
  refine ⟨by omega, by omega, ?_⟩
  split <;> omega
theorem ev_X3_doorFrom {T : RW} {o : Int} (hH : kq_H c) (hR : RepH σ c a) (ok : OkR a) (hP : m_PT σ T) (hT : m_PI T) (ho : 0 ≤ o ∧ o < 7) (hg : ∀ d, 0 ≤ d → d < a 0 → g d = σ 34 d ∧ 0 ≤ g d ∧ g d ≤ 108) : Ev l yX3_doorFrom cX3_doorFrom 4 (some .int) 2 43 [kr 33, kr c, ki o] σ (Rt (some (ki (if 1000000000 ≤ T o then -9 else m_fi (m_pd a g T o) (a 0).toNat 0))) σ) := by
  have n9 := ok.1
  have s0 : σ c 0 = a 0 := hR.1
  have hf := m_f_far (hT.rg ho)
  have hb := m_f_b (hT.rg ho)
  have hpo := hP o ho.1 ho.2
  refine ev_intro ym_X3_doorFrom.1 (Nat.le_of_ble_eq_true rfl) (fun hv hσ K S => ?_)
  have hv := hv
  show K 0 [some (kr 33), some (kr c), some (ki o), none] [] σ
  refine kq_use (fun (hfin : T o < 1000000000) => kq_for (α := Unit) (a 0) (fun i _ => 0 ≤ i ∧ m_fi (m_pd a g T o) (a 0).toNat 0 = m_fi (m_pd a g T o) (a 0 - i).toNat i) (fun i _ => K 15 [some (kr 33), some (kr c), some (ki o), some (ki i)] [] σ) ?_) (fun lp => ?_)
  · intro i _ hi inv ih
    obtain ⟨i0, hd⟩ := inv
    refine ks_iload_n (n := 16) S dX3_doorFrom_15 rfl rfl ?_
    refine ks_aload_n (n := 17) S dX3_doorFrom_16 rfl rfl ?_
    refine ks_getI (n := 20) (fi := 0) S dX3_doorFrom_17 rfl fl_X3_18 hH.o rfl rfl ?_
    refine ks_icmp_ge (n := 23) (tgt := 59) S dX3_doorFrom_20 rfl rfl (fun h20 => ?_) (fun h20 => ?_)
    · skip
      refine ks_bipush (n := 61) S dX3_doorFrom_59 rfl (by unfold iv; decide) ?_
      refine ks_iret S dX3_doorFrom_61 ?_
      exact rt_e (by rw [if_neg (by omega), hd, m_fi_0 (by omega)])
    · skip
      refine ks_aload_n (n := 24) S dX3_doorFrom_23 rfl rfl ?_
      refine ks_iload_n (n := 25) S dX3_doorFrom_24 rfl rfl ?_
      refine ks_iload_n (n := 26) S dX3_doorFrom_25 rfl rfl ?_
      refine kf_v2z (n := 29) S dX3_doorFrom_26 rfl ml_X3_51 ym_X0_leadsFrom (ev_X0_leadsFrom hH hR ok (by omega)) (by decide) hH.o (Nat.le_of_ble_eq_true rfl) ?_
      refine ks_if_eq (n := 32) (tgt := 53) S dX3_doorFrom_29 rfl rfl (fun h29 => ?_) (fun h29 => ?_)
      · skip
        simp only [bi_eq, bi_ne, Classical.not_not] at h29
        refine ks_iinc (n := 56) S dX3_doorFrom_53 rfl rfl (by omega) (L' := fun yy => [some (kr 33), some (kr c), some (ki o), some (ki yy)]) (fun _ => rfl) (fun v3_53 hv53 => ?_)
        subst v3_53
        refine ks_goto (n := 15) S dX3_doorFrom_56 rfl ?_
        refine ih () (by omega) ⟨by omega, ?_⟩
        rw [hd, m_fi_s (by omega), if_neg]
        unfold m_pd
        rw [decide_eq_true_eq]
        first | exact fun h => h29 h.1 | exact fun h => h48 (heq.mpr (by rw [← g1]; exact h.2))
      · skip
        simp only [bi_eq, bi_ne, Classical.not_not] at h29
        obtain ⟨y1, y2, y3⟩ := m_by_r ok ⟨i0, by omega⟩ h29
        obtain ⟨g1, g2, g3⟩ := hg i i0 (by omega)
        have hby := hP (m_by a i o) y1 y2
        have hbb := m_f_b (hT.rg ⟨y1, y2⟩)
        have heq := m_f_eq (hT.rg ho) hfin (hT.rg ⟨y1, y2⟩) ⟨g2, g3⟩
        rw [← hby, ← hpo, g1] at heq
        refine ks_aload_n (n := 33) S dX3_doorFrom_32 rfl rfl ?_
        refine ks_iload_n (n := 34) S dX3_doorFrom_33 rfl rfl ?_
        refine ks_aload_n (n := 35) S dX3_doorFrom_34 rfl rfl ?_
        refine ks_iload_n (n := 36) S dX3_doorFrom_35 rfl rfl ?_
        refine ks_iload_n (n := 37) S dX3_doorFrom_36 rfl rfl ?_
        refine kf_v2i (n := 40) S dX3_doorFrom_37 rfl ml_X3_55 ym_X0_beyond (ev_X0_beyond hH hR ok (by omega)) (by decide) hH.o (Nat.le_of_ble_eq_true rfl) ?_
        rw [y3]
        refine kf_v2i (n := 43) S dX3_doorFrom_40 rfl ml_X3_39 ym_X3_priceThrough (ev_X3_priceThrough (by omega) ⟨y1, y2⟩ (by omega) (by omega)) (by decide) rfl (Nat.le_of_ble_eq_true rfl) ?_
        rw [if_neg (show ¬ σ 34 i = -1 by omega)]
        refine ks_aload_n (n := 44) S dX3_doorFrom_43 rfl rfl ?_
        refine ks_iload_n (n := 45) S dX3_doorFrom_44 rfl rfl ?_
        refine kf_v1i (n := 48) S dX3_doorFrom_45 rfl ml_X3_42 ym_X3_priceFrom (ev_X3_priceFrom ho) (by decide) rfl (Nat.le_of_ble_eq_true rfl) ?_
        refine ks_icmp_ne (n := 51) (tgt := 53) S dX3_doorFrom_48 rfl rfl (fun h48 => ?_) (fun h48 => ?_)
        · skip
          refine ks_iinc (n := 56) S dX3_doorFrom_53 rfl rfl (by omega) (L' := fun yy => [some (kr 33), some (kr c), some (ki o), some (ki yy)]) (fun _ => rfl) (fun v3_53 hv53 => ?_)
          subst v3_53
          refine ks_goto (n := 15) S dX3_doorFrom_56 rfl ?_
          refine ih () (by omega) ⟨by omega, ?_⟩
          rw [hd, m_fi_s (by omega), if_neg]
          unfold m_pd
          rw [decide_eq_true_eq]
          first | exact fun h => h29 h.1 | exact fun h => h48 (heq.mpr (by rw [← g1]; exact h.2))
        · skip
          refine ks_iload_n (n := 52) S dX3_doorFrom_51 rfl rfl ?_
          refine ks_iret S dX3_doorFrom_52 ?_
          refine rt_e ?_
          rw [if_neg (by omega), hd, m_fi_s (by omega), if_pos]
          unfold m_pd
          rw [decide_eq_true_eq]
          exact ⟨h29, by rw [g1]; exact heq.mp h48⟩
  refine ks_aload_n (n := 1) S dX3_doorFrom_0 rfl rfl ?_
  refine ks_iload_n (n := 2) S dX3_doorFrom_1 rfl rfl ?_
  refine kf_v1i (n := 5) S dX3_doorFrom_2 rfl ml_X3_42 ym_X3_priceFrom (ev_X3_priceFrom ho) (by decide) rfl (Nat.le_of_ble_eq_true rfl) ?_
  refine ks_ldc (n := 7) (x := 1000000) S dX3_doorFrom_5 rfl ct_X3_28 (by unfold iv; decide +kernel) ?_
  refine ks_icmp_lt (n := 10) (tgt := 13) S dX3_doorFrom_7 rfl rfl (fun h7 => ?_) (fun h7 => ?_)
  · skip
    refine ks_iconst (n := 14) S dX3_doorFrom_13 rfl (by unfold iv; decide) ?_
    refine ks_istore_n (n := 15) S dX3_doorFrom_14 rfl rfl (L' := fun yy => [some (kr 33), some (kr c), some (ki o), some (ki yy)]) (Nat.le_of_ble_eq_true rfl) (fun _ => rfl) (fun v3_14 hv14 => ?_)
    obtain rfl : v3_14 = 0 := by omega
    exact lp (by omega) 0 () n9.1 ⟨by omega, by rw [Int.sub_zero]⟩
  · skip
    refine ks_bipush (n := 12) S dX3_doorFrom_10 rfl (by unfold iv; decide) ?_
    refine ks_iret S dX3_doorFrom_12 ?_
    exact rt_e (by rw [if_pos (by omega)])
theorem ev_X5_tollOf {d : Int} (hr : kq_sh[r]? = some (.inl 75)) (ok : OkR (σ r)) (hd : 0 ≤ d ∧ d < σ r 0) : Ev l yX5_tollOf cX5_tollOf 2 (some .int) 2 44 [kr r, ki d] σ (Rt (some (ki (100 * m_gv (σ r) d + 1))) σ) := by
  have n9 := ok.1
  obtain ⟨o1, o2, o3, o4, o5, o6, o7, o8⟩ := ok.2.2.2.1 d hd.1 hd.2
  have hb : 0 ≤ m_gv (σ r) d ∧ m_gv (σ r) d ≤ 108 := m_gives_b (k := aD (σ r) d 0) o2 o6
  refine ev_intro ym_X5_tollOf.1 (Nat.le_of_ble_eq_true rfl) (fun hv hσ K S => ?_)
  have hv := hv
  show K 0 [some (kr r), some (ki d)] [] σ
  refine ks_bipush (n := 2) S dX5_tollOf_0 rfl (by unfold iv; decide) ?_
  refine ks_aload_n (n := 3) S dX5_tollOf_2 rfl rfl ?_
  refine ks_iload_n (n := 4) S dX5_tollOf_3 rfl rfl ?_
  refine kf_s2i (n := 7) S dX5_tollOf_4 rfl ml_X5_58 ym_X5_gives (ev_X5_gives hr (by omega) o2 o6) (by decide) (Nat.le_of_ble_eq_true rfl) ?_
  refine ks_imul (n := 8) S dX5_tollOf_7 rfl (by omega) ?_
  refine ks_iconst (n := 9) S dX5_tollOf_8 rfl (by unfold iv; decide) ?_
  refine ks_iadd (n := 10) S dX5_tollOf_9 rfl (by omega) ?_
  refine ks_iret S dX5_tollOf_10 ?_
  exact rt_r
def m_gb (a : RW) (but d : Int) : Int := if d = but then -1 else m_gv a d
theorem m_gb_b {but d : Int} (ok : OkR a) (hd : 0 ≤ d ∧ d < a 0) : -1 ≤ m_gb a but d ∧ m_gb a but d ≤ 108 := by
  obtain ⟨o1, o2, o3, o4, o5, o6, o7, o8⟩ := ok.2.2.2.1 d hd.1 hd.2
  have hb : 0 ≤ m_gv a d ∧ m_gv a d ≤ 108 := m_gives_b (k := aD a d 0) o2 o6
  unfold m_gb; split <;> omega
/-- the reference's tolls are T -/
def m_EQ (σ : KS) (T : RW) : Prop := ∀ q, 0 ≤ q → q < 7 → σ 47 q = T q
theorem m_EQ.up {T : RW} {x v : Int} (h : m_EQ σ T) : m_EQ (kq_up σ 47 x v) (ru T x v) := by
  intro q q0 q1
  rw [kq_up_of]
  unfold ru
  split
  · rfl
  · exact h q q0 q1
set_option maxHeartbeats 4000000 in
theorem ev_X5_tolls {room but : Int} (hr : kq_sh[r]? = some (.inl 75)) (hr47 : r ≠ 47) (ok : OkR (σ r)) (hro : 0 ≤ room ∧ room < 7) : Ev l yX5_tolls cX5_tolls 8 none 3 65 [kr 38, kr r, ki room, ki but] σ (fun q τ => q = none ∧ (∀ e, e ≠ 47 → τ e = σ e) ∧ m_EQ τ (m_tl (σ r) (m_gb (σ r) but) room)) := by
  obtain ⟨a, ha⟩ : ∃ z, z = σ r := ⟨_, rfl⟩
  rw [← ha] at ok ⊢
  have n9 := ok.1
  have hg8 : ∀ d, 0 ≤ d → d < a 0 → m_gb a but d ≤ 108 := fun d h0 h1 => (m_gb_b ok ⟨h0, h1⟩).2
  have PI := m_PI_rr ok hg8 (m_PI_0 hro)
  refine ev_intro ym_X5_tolls.1 (Nat.le_of_ble_eq_true rfl) (fun hv hσ K S => ?_)
  have hv := hv
  show K 0 [some (kr 38), some (kr r), some (ki room), some (ki but), none, none, none, none] [] σ
  refine kq_use (kq_for (α := KS) 7 (fun i τ => 0 ≤ i ∧ (∀ e, e ≠ 47 → τ e = σ e) ∧ m_EQ τ (m_rr a (m_gb a but) (m_T0 room) i.toNat)) (fun i τ => K 38 [some (kr 38), some (kr r), some (ki room), some (ki but), some (ki i), none, none, none] [] τ) ?_) (fun lp => ?_)
  · intro i ρ hi inv ih
    obtain ⟨i0, F, hP⟩ := inv
    have PIi := PI i.toNat
    rw [m_rr_s i0] at ih
    have hend : i = 7 → m_rr a (m_gb a but) (m_T0 room) i.toNat = m_tl a (m_gb a but) room := fun e => by rw [e]; rfl
    obtain ⟨T, hT⟩ : ∃ T, T = m_rr a (m_gb a but) (m_T0 room) i.toNat := ⟨_, rfl⟩
    rw [← hT] at hP PIi hend ih
    have PId := m_PI_rn ok hg8 PIi
    refine kq_use (fun (hlt : i < 7) => kq_for (α := KS) (a 0) (fun j τ => 0 ≤ j ∧ (∀ e, e ≠ 47 → τ e = σ e) ∧ m_EQ τ (m_rn a (m_gb a but) T j.toNat)) (fun j τ => K 48 [some (kr 38), some (kr r), some (ki room), some (ki but), some (ki i), some (ki j), none, none] [] τ) ?_) (fun lp2 => ?_)
    · intro j τ hj inv2 ih2
      obtain ⟨j0, F2, hP2⟩ := inv2
      have PIj := PId j.toNat (by omega)
      rw [m_rn_s j0] at ih2
      have hfin : j = a 0 → m_rn a (m_gb a but) T j.toNat = m_rn a (m_gb a but) T (a 0).toNat := fun e => by rw [e]
      obtain ⟨Tj, hTj⟩ : ∃ T', T' = m_rn a (m_gb a but) T j.toNat := ⟨_, rfl⟩
      rw [← hTj] at hP2 PIj ih2 hfin
      have ra : τ r = a := by rw [F2 r hr47]; exact ha.symm
      have s0 : τ r 0 = a 0 := by rw [ra]
      refine kq_use (p := j < a 0 → ¬ j = but → ∀ ρ', (∀ e, e ≠ 47 → ρ' e = σ e) → m_EQ ρ' (m_r1 Tj (aD a j 2) (aD a j 3) (m_gv a j)) → K 130 [some (kr 38), some (kr r), some (ki room), some (ki but), some (ki i), some (ki j), some (ki (aD a j 2)), some (ki (aD a j 3))] [] ρ') ?_ (fun h130 => ?_)
      · intro hjn hjb ρ' F3 hP3
        obtain ⟨o1, o2, o3, o4, o5, o6, o7, o8⟩ := ok.2.2.2.1 j j0 hjn
        have gb : 0 ≤ m_gv a j ∧ m_gv a j ≤ 108 := m_gives_b (k := aD a j 0) o2 o6
        have ge : m_gb a but j = m_gv a j := if_neg hjb
        rw [ge] at ih2
        have rb : ρ' r = a := by rw [F3 r hr47]; exact ha.symm
        generalize hxx : aD a j 2 = x at *
        generalize hyy : aD a j 3 = y at *
        have PI3 := m_PI_r1 PIj (x := x) (y := y) ⟨by omega, by omega⟩ ⟨by omega, by omega⟩ gb
        have hrx : m_rx Tj x y (m_gv a j) = m_r1 (m_r1 Tj x y (m_gv a j)) y x (m_gv a j) := if_neg (by omega)
        rw [hrx] at ih2
        generalize m_r1 Tj x y (m_gv a j) = U at *
        have qx := hP3 x (by omega) (by omega)
        have qy := hP3 y (by omega) (by omega)
        have rx := PI3.rg (r := x) ⟨by omega, by omega⟩
        have ry := PI3.rg (r := y) ⟨by omega, by omega⟩
        unfold m_rg at rx ry
        refine ks_aload_n (n := 131) S dX5_tolls_130 rfl rfl ?_
        refine ks_getr (n := 134) S dX5_tolls_131 rfl fl_X5_34 rfl rfl ?_
        refine ks_iload (n := 136) S dX5_tolls_134 rfl rfl ?_
        refine ks_iaload (n := 137) S dX5_tolls_136 rfl rfl (by omega) ?_
        refine ks_aload_n (n := 138) S dX5_tolls_137 rfl rfl ?_
        refine ks_iload (n := 140) S dX5_tolls_138 rfl rfl ?_
        refine kf_s2i (n := 143) S dX5_tolls_140 rfl ml_X5_165 ym_X5_tollOf (ev_X5_tollOf hr (by rw [rb]; exact ok) (by rw [rb]; omega)) (by decide) (Nat.le_of_ble_eq_true rfl) ?_
        rw [rb]
        refine ks_iadd (n := 144) S dX5_tolls_143 rfl (by omega) ?_
        refine ks_aload_n (n := 145) S dX5_tolls_144 rfl rfl ?_
        refine ks_getr (n := 148) S dX5_tolls_145 rfl fl_X5_34 rfl rfl ?_
        refine ks_iload (n := 150) S dX5_tolls_148 rfl rfl ?_
        refine ks_iaload (n := 151) S dX5_tolls_150 rfl rfl (by omega) ?_
        refine ks_icmp_ge (n := 154) (tgt := 175) S dX5_tolls_151 rfl rfl (fun h151 => ?_) (fun h151 => ?_)
        · skip
          refine ks_iinc (n := 178) S dX5_tolls_175 rfl rfl (by omega) (L' := fun yy => [some (kr 38), some (kr r), some (ki room), some (ki but), some (ki i), some (ki yy), some (ki x), some (ki y)]) (fun _ => rfl) (fun v5_175 hv175 => ?_)
          subst v5_175
          refine ks_goto (n := 48) S dX5_tolls_178 rfl ?_
          refine ks_weak (L' := [some (kr 38), some (kr r), some (ki room), some (ki but), some (ki i), some (ki _), none, none]) S ((And.intro rfl (And.intro rfl (And.intro rfl (And.intro rfl (And.intro rfl (And.intro rfl True.intro))))))) ?_
          first
          | (refine ih2 _ (by omega) ⟨by omega, F3, ?_⟩; have e9 : m_r1 U y x (m_gv a j) = U := if_neg (by omega); rw [e9]; exact hP3)
          | (refine ih2 _ (by omega) ⟨by omega, fun e he => ?_, ?_⟩
             · rw [← F3 e he]; funext q; exact kq_up_c he
             · have e9 : m_r1 U y x (m_gv a j) = ru U y (U x + (100 * m_gv a j + 1)) := if_pos (by omega)
               rw [e9, ← qx]; exact hP3.up)
        · skip
          refine ks_aload_n (n := 155) S dX5_tolls_154 rfl rfl ?_
          refine ks_getr (n := 158) S dX5_tolls_155 rfl fl_X5_34 rfl rfl ?_
          refine ks_iload (n := 160) S dX5_tolls_158 rfl rfl ?_
          refine ks_aload_n (n := 161) S dX5_tolls_160 rfl rfl ?_
          refine ks_getr (n := 164) S dX5_tolls_161 rfl fl_X5_34 rfl rfl ?_
          refine ks_iload (n := 166) S dX5_tolls_164 rfl rfl ?_
          refine ks_iaload (n := 167) S dX5_tolls_166 rfl rfl (by omega) ?_
          refine ks_aload_n (n := 168) S dX5_tolls_167 rfl rfl ?_
          refine ks_iload (n := 170) S dX5_tolls_168 rfl rfl ?_
          refine kf_s2i (n := 173) S dX5_tolls_170 rfl ml_X5_165 ym_X5_tollOf (ev_X5_tollOf hr (by rw [rb]; exact ok) (by rw [rb]; omega)) (by decide) (Nat.le_of_ble_eq_true rfl) ?_
          rw [rb]
          refine ks_iadd (n := 174) S dX5_tolls_173 rfl (by omega) ?_
          refine ks_iastore (n := 175) S dX5_tolls_174 rfl rfl (by omega) ?_
          refine ks_iinc (n := 178) S dX5_tolls_175 rfl rfl (by omega) (L' := fun yy => [some (kr 38), some (kr r), some (ki room), some (ki but), some (ki i), some (ki yy), some (ki x), some (ki y)]) (fun _ => rfl) (fun v5_175 hv175 => ?_)
          subst v5_175
          refine ks_goto (n := 48) S dX5_tolls_178 rfl ?_
          refine ks_weak (L' := [some (kr 38), some (kr r), some (ki room), some (ki but), some (ki i), some (ki _), none, none]) S ((And.intro rfl (And.intro rfl (And.intro rfl (And.intro rfl (And.intro rfl (And.intro rfl True.intro))))))) ?_
          first
          | (refine ih2 _ (by omega) ⟨by omega, F3, ?_⟩; have e9 : m_r1 U y x (m_gv a j) = U := if_neg (by omega); rw [e9]; exact hP3)
          | (refine ih2 _ (by omega) ⟨by omega, fun e he => ?_, ?_⟩
             · rw [← F3 e he]; funext q; exact kq_up_c he
             · have e9 : m_r1 U y x (m_gv a j) = ru U y (U x + (100 * m_gv a j + 1)) := if_pos (by omega)
               rw [e9, ← qx]; exact hP3.up)
      refine ks_iload (n := 50) S dX5_tolls_48 rfl rfl ?_
      refine ks_aload_n (n := 51) S dX5_tolls_50 rfl rfl ?_
      refine ks_iconst (n := 52) S dX5_tolls_51 rfl (by unfold iv; decide) ?_
      refine ks_iaload (n := 53) S dX5_tolls_52 rfl hr (by omega) ?_
      refine ks_icmp_ge (n := 56) (tgt := 181) S dX5_tolls_53 rfl rfl (fun h53 => ?_) (fun h53 => ?_)
      · skip
        refine ks_iinc (n := 184) S dX5_tolls_181 rfl rfl (by omega) (L' := fun yy => [some (kr 38), some (kr r), some (ki room), some (ki but), some (ki yy), some (ki j), none, none]) (fun _ => rfl) (fun v4_181 hv181 => ?_)
        subst v4_181
        refine ks_goto (n := 38) S dX5_tolls_184 rfl ?_
        refine ks_weak (L' := [some (kr 38), some (kr r), some (ki room), some (ki but), some (ki _), none, none, none]) S ((And.intro rfl (And.intro rfl (And.intro rfl (And.intro rfl (And.intro rfl True.intro)))))) ?_
        refine ih _ (by omega) ⟨by omega, F2, ?_⟩
        rw [← hfin (by omega)]; exact hP2
      · skip
        refine ks_iload (n := 58) S dX5_tolls_56 rfl rfl ?_
        refine ks_iload_n (n := 59) S dX5_tolls_58 rfl rfl ?_
        refine ks_icmp_ne (n := 62) (tgt := 65) S dX5_tolls_59 rfl rfl (fun h59 => ?_) (fun h59 => ?_)
        · skip
          obtain ⟨o1, o2, o3, o4, o5, o6, o7, o8⟩ := ok.2.2.2.1 j j0 (by omega)
          have gb : 0 ≤ m_gv a j ∧ m_gv a j ≤ 108 := m_gives_b (k := aD a j 0) o2 o6
          replace h130 := h130 (by omega) h59
          have e3 : τ r (3 + 6 * j + 2) = aD a j 2 := by rw [ra]; rfl
          have e4 : τ r (3 + 6 * j + 3) = aD a j 3 := by rw [ra]; rfl
          generalize hxx : aD a j 2 = x at *
          generalize hyy : aD a j 3 = y at *
          have qx := hP2 x (by omega) (by omega)
          have qy := hP2 y (by omega) (by omega)
          have rx := PIj.rg (r := x) ⟨by omega, by omega⟩
          have ry := PIj.rg (r := y) ⟨by omega, by omega⟩
          unfold m_rg at rx ry
          refine ks_aload_n (n := 66) S dX5_tolls_65 rfl rfl ?_
          refine ks_iload (n := 68) S dX5_tolls_66 rfl rfl ?_
          refine ks_iconst (n := 69) S dX5_tolls_68 rfl (by unfold iv; decide) ?_
          refine kf_s2i (n := 72) S dX5_tolls_69 rfl ml_X5_48 ym_X5_ofD (ev_X5_ofD (by omega) (by omega)) (by decide) (Nat.le_of_ble_eq_true rfl) ?_
          refine ks_iaload (n := 73) S dX5_tolls_72 rfl hr (by omega) ?_
          rw [e3]
          refine ks_istore (n := 75) S dX5_tolls_73 rfl (L' := fun yy => [some (kr 38), some (kr r), some (ki room), some (ki but), some (ki i), some (ki j), some (ki yy), none]) (Nat.le_of_ble_eq_true rfl) (fun _ => rfl) (fun v6_73 hv73 => ?_)
          subst v6_73
          refine ks_aload_n (n := 76) S dX5_tolls_75 rfl rfl ?_
          refine ks_iload (n := 78) S dX5_tolls_76 rfl rfl ?_
          refine ks_iconst (n := 79) S dX5_tolls_78 rfl (by unfold iv; decide) ?_
          refine kf_s2i (n := 82) S dX5_tolls_79 rfl ml_X5_48 ym_X5_ofD (ev_X5_ofD (by omega) (by omega)) (by decide) (Nat.le_of_ble_eq_true rfl) ?_
          refine ks_iaload (n := 83) S dX5_tolls_82 rfl hr (by omega) ?_
          rw [e4]
          refine ks_istore (n := 85) S dX5_tolls_83 rfl (L' := fun yy => [some (kr 38), some (kr r), some (ki room), some (ki but), some (ki i), some (ki j), some (ki _), some (ki yy)]) (Nat.le_of_ble_eq_true rfl) (fun _ => rfl) (fun v7_83 hv83 => ?_)
          subst v7_83
          refine ks_aload_n (n := 86) S dX5_tolls_85 rfl rfl ?_
          refine ks_getr (n := 89) S dX5_tolls_86 rfl fl_X5_34 rfl rfl ?_
          refine ks_iload (n := 91) S dX5_tolls_89 rfl rfl ?_
          refine ks_iaload (n := 92) S dX5_tolls_91 rfl rfl (by omega) ?_
          refine ks_aload_n (n := 93) S dX5_tolls_92 rfl rfl ?_
          refine ks_iload (n := 95) S dX5_tolls_93 rfl rfl ?_
          refine kf_s2i (n := 98) S dX5_tolls_95 rfl ml_X5_165 ym_X5_tollOf (ev_X5_tollOf hr (by rw [ra]; exact ok) (by rw [ra]; omega)) (by decide) (Nat.le_of_ble_eq_true rfl) ?_
          rw [ra]
          refine ks_iadd (n := 99) S dX5_tolls_98 rfl (by omega) ?_
          refine ks_aload_n (n := 100) S dX5_tolls_99 rfl rfl ?_
          refine ks_getr (n := 103) S dX5_tolls_100 rfl fl_X5_34 rfl rfl ?_
          refine ks_iload (n := 105) S dX5_tolls_103 rfl rfl ?_
          refine ks_iaload (n := 106) S dX5_tolls_105 rfl rfl (by omega) ?_
          refine ks_icmp_ge (n := 109) (tgt := 130) S dX5_tolls_106 rfl rfl (fun h106 => ?_) (fun h106 => ?_)
          · skip
            first
            | (refine h130 _ F2 ?_; have e9 : m_r1 Tj x y (m_gv a j) = Tj := if_neg (by omega); rw [e9]; exact hP2)
            | (refine h130 _ (fun e he => ?_) ?_
               · rw [← F2 e he]; funext q; exact kq_up_c he
               · have e9 : m_r1 Tj x y (m_gv a j) = ru Tj x (Tj y + (100 * m_gv a j + 1)) := if_pos (by omega)
                 rw [e9, ← qy]; exact hP2.up)
          · skip
            refine ks_aload_n (n := 110) S dX5_tolls_109 rfl rfl ?_
            refine ks_getr (n := 113) S dX5_tolls_110 rfl fl_X5_34 rfl rfl ?_
            refine ks_iload (n := 115) S dX5_tolls_113 rfl rfl ?_
            refine ks_aload_n (n := 116) S dX5_tolls_115 rfl rfl ?_
            refine ks_getr (n := 119) S dX5_tolls_116 rfl fl_X5_34 rfl rfl ?_
            refine ks_iload (n := 121) S dX5_tolls_119 rfl rfl ?_
            refine ks_iaload (n := 122) S dX5_tolls_121 rfl rfl (by omega) ?_
            refine ks_aload_n (n := 123) S dX5_tolls_122 rfl rfl ?_
            refine ks_iload (n := 125) S dX5_tolls_123 rfl rfl ?_
            refine kf_s2i (n := 128) S dX5_tolls_125 rfl ml_X5_165 ym_X5_tollOf (ev_X5_tollOf hr (by rw [ra]; exact ok) (by rw [ra]; omega)) (by decide) (Nat.le_of_ble_eq_true rfl) ?_
            rw [ra]
            refine ks_iadd (n := 129) S dX5_tolls_128 rfl (by omega) ?_
            refine ks_iastore (n := 130) S dX5_tolls_129 rfl rfl (by omega) ?_
            first
            | (refine h130 _ F2 ?_; have e9 : m_r1 Tj x y (m_gv a j) = Tj := if_neg (by omega); rw [e9]; exact hP2)
            | (refine h130 _ (fun e he => ?_) ?_
               · rw [← F2 e he]; funext q; exact kq_up_c he
               · have e9 : m_r1 Tj x y (m_gv a j) = ru Tj x (Tj y + (100 * m_gv a j + 1)) := if_pos (by omega)
                 rw [e9, ← qy]; exact hP2.up)
        · skip
          refine ks_goto (n := 175) S dX5_tolls_62 rfl ?_
          refine ks_iinc (n := 178) S dX5_tolls_175 rfl rfl (by omega) (L' := fun yy => [some (kr 38), some (kr r), some (ki room), some (ki but), some (ki i), some (ki yy), none, none]) (fun _ => rfl) (fun v5_175 hv175 => ?_)
          subst v5_175
          refine ks_goto (n := 48) S dX5_tolls_178 rfl ?_
          refine ih2 _ (by omega) ⟨by omega, F2, ?_⟩
          have e8 : m_gb a but j = -1 := if_pos h59
          have e9 : m_rx Tj (aD a j 2) (aD a j 3) (m_gb a but j) = Tj := by rw [e8]; rfl
          rw [e9]; exact hP2
    refine ks_iload (n := 40) S dX5_tolls_38 rfl rfl ?_
    refine ks_bipush (n := 42) S dX5_tolls_40 rfl (by unfold iv; decide) ?_
    refine ks_icmp_ge (n := 45) (tgt := 187) S dX5_tolls_42 rfl rfl (fun h42 => ?_) (fun h42 => ?_)
    · skip
      refine ks_vret S dX5_tolls_187 ?_
      refine ⟨rfl, F, ?_⟩
      rw [← hend (by omega)]; exact hP
    · skip
      refine ks_iconst (n := 46) S dX5_tolls_45 rfl (by unfold iv; decide) ?_
      refine ks_istore (n := 48) S dX5_tolls_46 rfl (L' := fun yy => [some (kr 38), some (kr r), some (ki room), some (ki but), some (ki i), some (ki yy), none, none]) (Nat.le_of_ble_eq_true rfl) (fun _ => rfl) (fun v5_46 hv46 => ?_)
      obtain rfl : v5_46 = 0 := by omega
      exact lp2 (by omega) 0 ρ n9.1 ⟨by omega, F, hP⟩
  refine kq_use (kq_for (α := KS) 7 (fun i τ => 0 ≤ i ∧ (∀ e, e ≠ 47 → τ e = σ e) ∧ ∀ q, 0 ≤ q → q < i → τ 47 q = m_T0 room q) (fun i τ => K 3 [some (kr 38), some (kr r), some (ki room), some (ki but), some (ki i), none, none, none] [] τ) ?_) (fun lp0 => ?_)
  · intro i τ hi inv ih
    obtain ⟨i0, F, hz⟩ := inv
    refine ks_iload (n := 5) S dX5_tolls_3 rfl rfl ?_
    refine ks_bipush (n := 7) S dX5_tolls_5 rfl (by unfold iv; decide) ?_
    refine ks_icmp_ge (n := 10) (tgt := 35) S dX5_tolls_7 rfl rfl (fun h7 => ?_) (fun h7 => ?_)
    · skip
      refine ks_iconst (n := 36) S dX5_tolls_35 rfl (by unfold iv; decide) ?_
      refine ks_istore (n := 38) S dX5_tolls_36 rfl (L' := fun yy => [some (kr 38), some (kr r), some (ki room), some (ki but), some (ki yy), none, none, none]) (Nat.le_of_ble_eq_true rfl) (fun _ => rfl) (fun v4_36 hv36 => ?_)
      obtain rfl : v4_36 = 0 := by omega
      exact lp 0 τ (by omega) ⟨by omega, F, fun q q0 q1 => hz q q0 (by omega)⟩
    · skip
      refine ks_aload_n (n := 11) S dX5_tolls_10 rfl rfl ?_
      refine ks_getr (n := 14) S dX5_tolls_11 rfl fl_X5_34 rfl rfl ?_
      refine ks_iload (n := 16) S dX5_tolls_14 rfl rfl ?_
      refine ks_iload (n := 18) S dX5_tolls_16 rfl rfl ?_
      refine ks_iload_n (n := 19) S dX5_tolls_18 rfl rfl ?_
      refine ks_icmp_ne (n := 22) (tgt := 26) S dX5_tolls_19 rfl rfl (fun h19 => ?_) (fun h19 => ?_)
      · skip
        refine ks_ldc (n := 28) (x := 1000000000) S dX5_tolls_26 rfl ct_X5_37 (by unfold iv; decide +kernel) ?_
        refine ks_iastore (n := 29) S dX5_tolls_28 rfl rfl (by omega) ?_
        refine ks_iinc (n := 32) S dX5_tolls_29 rfl rfl (by omega) (L' := fun yy => [some (kr 38), some (kr r), some (ki room), some (ki but), some (ki yy), none, none, none]) (fun _ => rfl) (fun v4_29 hv29 => ?_)
        subst v4_29
        refine ks_goto (n := 3) S dX5_tolls_32 rfl ?_
        refine ih _ (by omega) ⟨by omega, fun e he => ?_, fun q q0 q1 => ?_⟩
        · rw [← F e he]; funext j; exact kq_up_c he
        · rw [kq_up_of]; split
          · rename_i hqi
            unfold m_T0
            first | (rw [if_pos (show q = room by omega)]; done) | (rw [if_neg (show ¬ q = room by omega)]; done)
          · exact hz q q0 (by omega)
      · skip
        refine ks_iconst (n := 23) S dX5_tolls_22 rfl (by unfold iv; decide) ?_
        refine ks_goto (n := 28) S dX5_tolls_23 rfl ?_
        refine ks_iastore (n := 29) S dX5_tolls_28 rfl rfl (by omega) ?_
        refine ks_iinc (n := 32) S dX5_tolls_29 rfl rfl (by omega) (L' := fun yy => [some (kr 38), some (kr r), some (ki room), some (ki but), some (ki yy), none, none, none]) (fun _ => rfl) (fun v4_29 hv29 => ?_)
        subst v4_29
        refine ks_goto (n := 3) S dX5_tolls_32 rfl ?_
        refine ih _ (by omega) ⟨by omega, fun e he => ?_, fun q q0 q1 => ?_⟩
        · rw [← F e he]; funext j; exact kq_up_c he
        · rw [kq_up_of]; split
          · rename_i hqi
            unfold m_T0
            first | (rw [if_pos (show q = room by omega)]; done) | (rw [if_neg (show ¬ q = room by omega)]; done)
          · exact hz q q0 (by omega)
  refine ks_iconst (n := 1) S dX5_tolls_0 rfl (by unfold iv; decide) ?_
  refine ks_istore (n := 3) S dX5_tolls_1 rfl (L' := fun yy => [some (kr 38), some (kr r), some (ki room), some (ki but), some (ki yy), none, none, none]) (Nat.le_of_ble_eq_true rfl) (fun _ => rfl) (fun v4_1 hv1 => ?_)
  obtain rfl : v4_1 = 0 := by omega
  exact lp0 0 σ (by omega) ⟨by omega, fun _ _ => rfl, fun q q0 q1 => by omega⟩
end WAYS4

