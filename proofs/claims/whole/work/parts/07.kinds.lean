section KINDS
variable {l : Launch} {σ : KS}
def m_sg (f h : Int) : Int := if 0 < h then h + f else h
def m_gives (k f h : Int) : Int := if k = 1 then h else if k = 2 then 0 else if k = 3 then m_sg f h else if k = 5 then m_sg f h / 2 else h / 2
def m_keeps (k f s : Int) : Int := if k = 2 ∨ k = 4 then s / 4 else if k = 3 ∨ k = 5 then s + f else s
def m_cools (k f : Int) : Int := if k = 1 then 1 else if k = 3 ∨ k = 5 then 0 else if k = 4 then 2 + f else 2
def m_mn (a b : Int) : Int := if b < a then b else a
def m_mx (a b : Int) : Int := if a < b then b else a
theorem ev_X1_slammedGives {f h : Int} (hf : 0 ≤ f ∧ f ≤ 9) (hh : 0 ≤ h ∧ h ≤ 99) : Ev l yX1_slammedGives cX1_slammedGives 2 (some .int) 0 0 [ki f, ki h] σ (Rt (some (ki (m_sg f h))) σ) := by
  refine ev_intro ym_X1_slammedGives.1 (Nat.le_of_ble_eq_true rfl) (fun hv hσ K S => ?_)
  have hv := hv
  show K 0 [some (ki f), some (ki h)] [] σ
  refine ks_iload_n (n := 1) S dX1_slammedGives_0 rfl rfl ?_
  refine ks_if_le (n := 4) (tgt := 10) S dX1_slammedGives_1 rfl rfl (fun h1 => ?_) (fun h1 => ?_)
  · skip
    refine ks_iload_n (n := 11) S dX1_slammedGives_10 rfl rfl ?_
    refine ks_iret S dX1_slammedGives_11 ?_
    exact rt_e (by unfold m_sg; split <;> omega)
  · skip
    refine ks_iload_n (n := 5) S dX1_slammedGives_4 rfl rfl ?_
    refine ks_iload_n (n := 6) S dX1_slammedGives_5 rfl rfl ?_
    refine ks_iadd (n := 7) S dX1_slammedGives_6 rfl (by omega) ?_
    refine ks_goto (n := 11) S dX1_slammedGives_7 rfl ?_
    refine ks_iret S dX1_slammedGives_11 ?_
    exact rt_e (by unfold m_sg; split <;> omega)
theorem ev_X1_gives {k f h : Int} (hf : 0 ≤ f ∧ f ≤ 9) (hh : 0 ≤ h ∧ h ≤ 99) : Ev l yX1_gives cX1_gives 3 (some .int) 1 21 [ki k, ki f, ki h] σ (Rt (some (ki (m_gives k f h))) σ) := by
  have hsg : 0 ≤ m_sg f h := by unfold m_sg; split <;> omega
  refine ev_intro ym_X1_gives.1 (Nat.le_of_ble_eq_true rfl) (fun hv hσ K S => ?_)
  have hv := hv
  show K 0 [some (ki k), some (ki f), some (ki h)] [] σ
  refine ks_iload_n (n := 1) S dX1_gives_0 rfl rfl ?_
  refine ks_table S (tdf := 54) [36, 38, 40, 54, 46] dX1_gives_1 (by decide) (by decide) rfl (fun h1 => ?_) (And.intro (fun h1 => ?_) (And.intro (fun h1 => ?_) (And.intro (fun h1 => ?_) (And.intro (fun h1 => ?_) (And.intro (fun h1 => ?_) trivial)))))
  · skip
    refine ks_iload_n (n := 55) S dX1_gives_54 rfl rfl ?_
    refine ks_iconst (n := 56) S dX1_gives_55 rfl (by unfold iv; decide) ?_
    refine ks_idiv (n := 57) S dX1_gives_56 rfl (by omega) ?_
    refine ks_iret S dX1_gives_57 ?_
    exact rt_e (by unfold m_gives; (repeat' split) <;> omega)
  · skip
    refine ks_iload_n (n := 37) S dX1_gives_36 rfl rfl ?_
    refine ks_iret S dX1_gives_37 ?_
    exact rt_e (by unfold m_gives; (repeat' split) <;> omega)
  · skip
    refine ks_iconst (n := 39) S dX1_gives_38 rfl (by unfold iv; decide) ?_
    refine ks_iret S dX1_gives_39 ?_
    exact rt_e (by unfold m_gives; (repeat' split) <;> omega)
  · skip
    refine ks_iload_n (n := 41) S dX1_gives_40 rfl rfl ?_
    refine ks_iload_n (n := 42) S dX1_gives_41 rfl rfl ?_
    refine kf_s2i (n := 45) S dX1_gives_42 rfl ml_X1_9 ym_X1_slammedGives (ev_X1_slammedGives hf hh) (by decide) (Nat.le_of_ble_eq_true rfl) ?_
    refine ks_iret S dX1_gives_45 ?_
    exact rt_e (by unfold m_gives; (repeat' split) <;> omega)
  · skip
    refine ks_iload_n (n := 55) S dX1_gives_54 rfl rfl ?_
    refine ks_iconst (n := 56) S dX1_gives_55 rfl (by unfold iv; decide) ?_
    refine ks_idiv (n := 57) S dX1_gives_56 rfl (by omega) ?_
    refine ks_iret S dX1_gives_57 ?_
    exact rt_e (by unfold m_gives; (repeat' split) <;> omega)
  · skip
    refine ks_iload_n (n := 47) S dX1_gives_46 rfl rfl ?_
    refine ks_iload_n (n := 48) S dX1_gives_47 rfl rfl ?_
    refine kf_s2i (n := 51) S dX1_gives_48 rfl ml_X1_9 ym_X1_slammedGives (ev_X1_slammedGives hf hh) (by decide) (Nat.le_of_ble_eq_true rfl) ?_
    refine ks_iconst (n := 52) S dX1_gives_51 rfl (by unfold iv; decide) ?_
    refine ks_idiv (n := 53) S dX1_gives_52 rfl (by omega) ?_
    refine ks_iret S dX1_gives_53 ?_
    exact rt_e (by unfold m_gives; (repeat' split) <;> omega)
theorem ev_X1_keeps {k f s : Int} (hf : 0 ≤ f ∧ f ≤ 9) (hs : 0 ≤ s ∧ s ≤ 999) : Ev l yX1_keeps cX1_keeps 3 (some .int) 1 21 [ki k, ki f, ki s] σ (Rt (some (ki (m_mn 99 (m_keeps k f s)))) σ) := by
  refine ev_intro ym_X1_keeps.1 (Nat.le_of_ble_eq_true rfl) (fun hv hσ K S => ?_)
  have hv := hv
  show K 0 [some (ki k), some (ki f), some (ki s)] [] σ
  refine ks_iload_n (n := 1) S dX1_keeps_0 rfl rfl ?_
  refine ks_table S (tdf := 50) [32, 41, 32, 41] dX1_keeps_1 (by decide) (by decide) rfl (fun h1 => ?_) (And.intro (fun h1 => ?_) (And.intro (fun h1 => ?_) (And.intro (fun h1 => ?_) (And.intro (fun h1 => ?_) trivial))))
  · skip
    refine ks_bipush (n := 52) S dX1_keeps_50 rfl (by unfold iv; decide) ?_
    refine ks_iload_n (n := 53) S dX1_keeps_52 rfl rfl ?_
    refine ks_mmin (n := 56) S dX1_keeps_53 rfl ml_X1_15 (by decide) (Nat.le_of_ble_eq_true rfl) ?_
    refine ks_iret S dX1_keeps_56 ?_
    exact rt_e (by unfold m_keeps m_mn; (repeat' split) <;> omega)
  · skip
    refine ks_bipush (n := 34) S dX1_keeps_32 rfl (by unfold iv; decide) ?_
    refine ks_iload_n (n := 35) S dX1_keeps_34 rfl rfl ?_
    refine ks_iconst (n := 36) S dX1_keeps_35 rfl (by unfold iv; decide) ?_
    refine ks_idiv (n := 37) S dX1_keeps_36 rfl (by omega) ?_
    refine ks_mmin (n := 40) S dX1_keeps_37 rfl ml_X1_15 (by decide) (Nat.le_of_ble_eq_true rfl) ?_
    refine ks_iret S dX1_keeps_40 ?_
    exact rt_e (by unfold m_keeps m_mn; (repeat' split) <;> omega)
  · skip
    refine ks_bipush (n := 43) S dX1_keeps_41 rfl (by unfold iv; decide) ?_
    refine ks_iload_n (n := 44) S dX1_keeps_43 rfl rfl ?_
    refine ks_iload_n (n := 45) S dX1_keeps_44 rfl rfl ?_
    refine ks_iadd (n := 46) S dX1_keeps_45 rfl (by omega) ?_
    refine ks_mmin (n := 49) S dX1_keeps_46 rfl ml_X1_15 (by decide) (Nat.le_of_ble_eq_true rfl) ?_
    refine ks_iret S dX1_keeps_49 ?_
    exact rt_e (by unfold m_keeps m_mn; (repeat' split) <;> omega)
  · skip
    refine ks_bipush (n := 34) S dX1_keeps_32 rfl (by unfold iv; decide) ?_
    refine ks_iload_n (n := 35) S dX1_keeps_34 rfl rfl ?_
    refine ks_iconst (n := 36) S dX1_keeps_35 rfl (by unfold iv; decide) ?_
    refine ks_idiv (n := 37) S dX1_keeps_36 rfl (by omega) ?_
    refine ks_mmin (n := 40) S dX1_keeps_37 rfl ml_X1_15 (by decide) (Nat.le_of_ble_eq_true rfl) ?_
    refine ks_iret S dX1_keeps_40 ?_
    exact rt_e (by unfold m_keeps m_mn; (repeat' split) <;> omega)
  · skip
    refine ks_bipush (n := 43) S dX1_keeps_41 rfl (by unfold iv; decide) ?_
    refine ks_iload_n (n := 44) S dX1_keeps_43 rfl rfl ?_
    refine ks_iload_n (n := 45) S dX1_keeps_44 rfl rfl ?_
    refine ks_iadd (n := 46) S dX1_keeps_45 rfl (by omega) ?_
    refine ks_mmin (n := 49) S dX1_keeps_46 rfl ml_X1_15 (by decide) (Nat.le_of_ble_eq_true rfl) ?_
    refine ks_iret S dX1_keeps_49 ?_
    exact rt_e (by unfold m_keeps m_mn; (repeat' split) <;> omega)
theorem ev_X1_coolsBy {k f : Int} (hf : 0 ≤ f ∧ f ≤ 9) : Ev l yX1_coolsBy cX1_coolsBy 2 (some .int) 0 0 [ki k, ki f] σ (Rt (some (ki (m_cools k f))) σ) := by
  refine ev_intro ym_X1_coolsBy.1 (Nat.le_of_ble_eq_true rfl) (fun hv hσ K S => ?_)
  have hv := hv
  show K 0 [some (ki k), some (ki f)] [] σ
  refine ks_iload_n (n := 1) S dX1_coolsBy_0 rfl rfl ?_
  refine ks_table S (tdf := 44) [36, 44, 38, 40, 38] dX1_coolsBy_1 (by decide) (by decide) rfl (fun h1 => ?_) (And.intro (fun h1 => ?_) (And.intro (fun h1 => ?_) (And.intro (fun h1 => ?_) (And.intro (fun h1 => ?_) (And.intro (fun h1 => ?_) trivial)))))
  · skip
    refine ks_iconst (n := 45) S dX1_coolsBy_44 rfl (by unfold iv; decide) ?_
    refine ks_iret S dX1_coolsBy_45 ?_
    exact rt_e (by unfold m_cools; (repeat' split) <;> omega)
  · skip
    refine ks_iconst (n := 37) S dX1_coolsBy_36 rfl (by unfold iv; decide) ?_
    refine ks_iret S dX1_coolsBy_37 ?_
    exact rt_e (by unfold m_cools; (repeat' split) <;> omega)
  · skip
    refine ks_iconst (n := 45) S dX1_coolsBy_44 rfl (by unfold iv; decide) ?_
    refine ks_iret S dX1_coolsBy_45 ?_
    exact rt_e (by unfold m_cools; (repeat' split) <;> omega)
  · skip
    refine ks_iconst (n := 39) S dX1_coolsBy_38 rfl (by unfold iv; decide) ?_
    refine ks_iret S dX1_coolsBy_39 ?_
    exact rt_e (by unfold m_cools; (repeat' split) <;> omega)
  · skip
    refine ks_iconst (n := 41) S dX1_coolsBy_40 rfl (by unfold iv; decide) ?_
    refine ks_iload_n (n := 42) S dX1_coolsBy_41 rfl rfl ?_
    refine ks_iadd (n := 43) S dX1_coolsBy_42 rfl (by omega) ?_
    refine ks_iret S dX1_coolsBy_43 ?_
    exact rt_e (by unfold m_cools; (repeat' split) <;> omega)
  · skip
    refine ks_iconst (n := 39) S dX1_coolsBy_38 rfl (by unfold iv; decide) ?_
    refine ks_iret S dX1_coolsBy_39 ?_
    exact rt_e (by unfold m_cools; (repeat' split) <;> omega)
theorem ev_X1_cooled {k f h n : Int} (hf : 0 ≤ f ∧ f ≤ 9) (hh : 0 ≤ h ∧ h ≤ 99) (hn : 0 ≤ n ∧ n ≤ 60) : Ev l yX1_cooled cX1_cooled 4 (some .int) 1 21 [ki k, ki f, ki h, ki n] σ (Rt (some (ki (m_mx 0 (h - n * m_cools k f)))) σ) := by
  have hc : 0 ≤ m_cools k f ∧ m_cools k f ≤ 11 := by unfold m_cools; (repeat' split) <;> omega
  have hp : 0 ≤ n * m_cools k f := Int.mul_nonneg hn.1 hc.1
  have hp2 : n * m_cools k f ≤ 60 * 11 := Int.mul_le_mul hn.2 hc.2 hc.1 (by omega)
  refine ev_intro ym_X1_cooled.1 (Nat.le_of_ble_eq_true rfl) (fun hv hσ K S => ?_)
  have hv := hv
  show K 0 [some (ki k), some (ki f), some (ki h), some (ki n)] [] σ
  refine ks_iconst (n := 1) S dX1_cooled_0 rfl (by unfold iv; decide) ?_
  refine ks_iload_n (n := 2) S dX1_cooled_1 rfl rfl ?_
  refine ks_iload_n (n := 3) S dX1_cooled_2 rfl rfl ?_
  refine ks_iload_n (n := 4) S dX1_cooled_3 rfl rfl ?_
  refine ks_iload_n (n := 5) S dX1_cooled_4 rfl rfl ?_
  refine kf_s2i (n := 8) S dX1_cooled_5 rfl ml_X1_20 ym_X1_coolsBy (ev_X1_coolsBy hf) (by decide) (Nat.le_of_ble_eq_true rfl) ?_
  refine ks_imul (n := 9) S dX1_cooled_8 rfl (by omega) ?_
  refine ks_isub (n := 10) S dX1_cooled_9 rfl (by omega) ?_
  refine ks_mmax (n := 13) S dX1_cooled_10 rfl ml_X1_23 (by decide) (Nat.le_of_ble_eq_true rfl) ?_
  refine ks_iret S dX1_cooled_13 ?_
  exact rt_r
def m_kind (c : Int) : Int := if c = 100 then 0 else if c = 111 then 1 else if c = 99 then 2 else if c = 115 then 3 else if c = 103 then 4 else if c = 98 then 5 else -9
theorem ev_X1_ofLetter {c : Int} : Ev l yX1_ofLetter cX1_ofLetter 1 (some .int) 0 0 [ki c] σ (Rt (some (ki (m_kind c))) σ) := by
  refine ev_intro ym_X1_ofLetter.1 (Nat.le_of_ble_eq_true rfl) (fun hv hσ K S => ?_)
  have hv := hv
  show K 0 [some (ki c)] [] σ
  refine ks_iload_n (n := 1) S dX1_ofLetter_0 rfl rfl ?_
  refine ks_table S (tdf := 100) [98, 92, 88, 100, 100, 96, 100, 100, 100, 100, 100, 100, 100, 90, 100, 100, 100, 94] dX1_ofLetter_1 (by decide) (by decide) rfl (fun h1 => ?_) (And.intro (fun h1 => ?_) (And.intro (fun h1 => ?_) (And.intro (fun h1 => ?_) (And.intro (fun h1 => ?_) (And.intro (fun h1 => ?_) (And.intro (fun h1 => ?_) (And.intro (fun h1 => ?_) (And.intro (fun h1 => ?_) (And.intro (fun h1 => ?_) (And.intro (fun h1 => ?_) (And.intro (fun h1 => ?_) (And.intro (fun h1 => ?_) (And.intro (fun h1 => ?_) (And.intro (fun h1 => ?_) (And.intro (fun h1 => ?_) (And.intro (fun h1 => ?_) (And.intro (fun h1 => ?_) (And.intro (fun h1 => ?_) trivial))))))))))))))))))
  · skip
    refine ks_bipush (n := 102) S dX1_ofLetter_100 rfl (by unfold iv; decide) ?_
    refine ks_iret S dX1_ofLetter_102 ?_
    exact rt_e (by unfold m_kind; (repeat' split) <;> omega)
  · skip
    refine ks_iconst (n := 99) S dX1_ofLetter_98 rfl (by unfold iv; decide) ?_
    refine ks_iret S dX1_ofLetter_99 ?_
    exact rt_e (by unfold m_kind; (repeat' split) <;> omega)
  · skip
    refine ks_iconst (n := 93) S dX1_ofLetter_92 rfl (by unfold iv; decide) ?_
    refine ks_iret S dX1_ofLetter_93 ?_
    exact rt_e (by unfold m_kind; (repeat' split) <;> omega)
  · skip
    refine ks_iconst (n := 89) S dX1_ofLetter_88 rfl (by unfold iv; decide) ?_
    refine ks_iret S dX1_ofLetter_89 ?_
    exact rt_e (by unfold m_kind; (repeat' split) <;> omega)
  · skip
    refine ks_bipush (n := 102) S dX1_ofLetter_100 rfl (by unfold iv; decide) ?_
    refine ks_iret S dX1_ofLetter_102 ?_
    exact rt_e (by unfold m_kind; (repeat' split) <;> omega)
  · skip
    refine ks_bipush (n := 102) S dX1_ofLetter_100 rfl (by unfold iv; decide) ?_
    refine ks_iret S dX1_ofLetter_102 ?_
    exact rt_e (by unfold m_kind; (repeat' split) <;> omega)
  · skip
    refine ks_iconst (n := 97) S dX1_ofLetter_96 rfl (by unfold iv; decide) ?_
    refine ks_iret S dX1_ofLetter_97 ?_
    exact rt_e (by unfold m_kind; (repeat' split) <;> omega)
  · skip
    refine ks_bipush (n := 102) S dX1_ofLetter_100 rfl (by unfold iv; decide) ?_
    refine ks_iret S dX1_ofLetter_102 ?_
    exact rt_e (by unfold m_kind; (repeat' split) <;> omega)
  · skip
    refine ks_bipush (n := 102) S dX1_ofLetter_100 rfl (by unfold iv; decide) ?_
    refine ks_iret S dX1_ofLetter_102 ?_
    exact rt_e (by unfold m_kind; (repeat' split) <;> omega)
  · skip
    refine ks_bipush (n := 102) S dX1_ofLetter_100 rfl (by unfold iv; decide) ?_
    refine ks_iret S dX1_ofLetter_102 ?_
    exact rt_e (by unfold m_kind; (repeat' split) <;> omega)
  · skip
    refine ks_bipush (n := 102) S dX1_ofLetter_100 rfl (by unfold iv; decide) ?_
    refine ks_iret S dX1_ofLetter_102 ?_
    exact rt_e (by unfold m_kind; (repeat' split) <;> omega)
  · skip
    refine ks_bipush (n := 102) S dX1_ofLetter_100 rfl (by unfold iv; decide) ?_
    refine ks_iret S dX1_ofLetter_102 ?_
    exact rt_e (by unfold m_kind; (repeat' split) <;> omega)
  · skip
    refine ks_bipush (n := 102) S dX1_ofLetter_100 rfl (by unfold iv; decide) ?_
    refine ks_iret S dX1_ofLetter_102 ?_
    exact rt_e (by unfold m_kind; (repeat' split) <;> omega)
  · skip
    refine ks_bipush (n := 102) S dX1_ofLetter_100 rfl (by unfold iv; decide) ?_
    refine ks_iret S dX1_ofLetter_102 ?_
    exact rt_e (by unfold m_kind; (repeat' split) <;> omega)
  · skip
    refine ks_iconst (n := 91) S dX1_ofLetter_90 rfl (by unfold iv; decide) ?_
    refine ks_iret S dX1_ofLetter_91 ?_
    exact rt_e (by unfold m_kind; (repeat' split) <;> omega)
  · skip
    refine ks_bipush (n := 102) S dX1_ofLetter_100 rfl (by unfold iv; decide) ?_
    refine ks_iret S dX1_ofLetter_102 ?_
    exact rt_e (by unfold m_kind; (repeat' split) <;> omega)
  · skip
    refine ks_bipush (n := 102) S dX1_ofLetter_100 rfl (by unfold iv; decide) ?_
    refine ks_iret S dX1_ofLetter_102 ?_
    exact rt_e (by unfold m_kind; (repeat' split) <;> omega)
  · skip
    refine ks_bipush (n := 102) S dX1_ofLetter_100 rfl (by unfold iv; decide) ?_
    refine ks_iret S dX1_ofLetter_102 ?_
    exact rt_e (by unfold m_kind; (repeat' split) <;> omega)
  · skip
    refine ks_iconst (n := 95) S dX1_ofLetter_94 rfl (by unfold iv; decide) ?_
    refine ks_iret S dX1_ofLetter_95 ?_
    exact rt_e (by unfold m_kind; (repeat' split) <;> omega)
end KINDS

