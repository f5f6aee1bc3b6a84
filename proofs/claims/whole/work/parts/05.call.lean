section KCALL
variable {l : Launch} {cc : ByteArray} {own : String} {ret : Option FieldType} {fr lo : Nat} {Q : Option KV → KS → Prop} {K : Nat → KL → List KV → KS → Prop} {pc n : Nat} {L : KL} {st : List KV} {σ : KS}
variable {y : MethodName} {bytes : ByteArray} {maxL : Nat} {ret' : Option FieldType} {fr' lo' idx np ci a : Nat} {as : List KV} {Q' : Option KV → KS → Prop} {fs : List (Option Nat)}
theorem kn_cmp {x y : Int} (hx : jv x) (hy : jv y) : lg_cmp (Int64.ofInt x) (Int64.ofInt y) = Int32.ofInt (kq_cmp x y) := by
  unfold lg_cmp kq_cmp
  simp only [gt_iff_lt, Int64.lt_iff_toInt_lt, ← Int64.toInt_inj, kn_j hx, kn_j hy]
  split
  · rfl
  · split <;> rfl
theorem iv_cmp (x y : Int) : iv (kq_cmp x y) := by
  unfold kq_cmp iv
  split
  · omega
  · split <;> omega
theorem ks_lcmp (S : Sem l cc own ret fr lo Q K) {x y : Int} (hd : decode cc pc = .ok (.lcmp, 1)) (hn : pc + 1 = n) (k : K n L (ki (kq_cmp x y) :: st) σ) : K pc L (kj y :: kj x :: st) σ := by
  obtain ⟨p, e, R, s, m, args, below, meth, c, ad, cA, D, A, H0, cells, slots, Qf, hx, hb, hown, hts, hR, hK, hN, hi, hA, hret, rfl⟩ := S
  subst hn
  intro hst hL hσ H locs ls hP hS hl hlen
  simp only [List.forall_mem_cons] at hst
  obtain ⟨h2, h1, hst⟩ := hst
  refine W.lcmp hx hb hd ?_
  rw [kn_cmp h1 h2]
  exact k (List.forall_mem_cons.mpr ⟨iv_cmp x y, hst⟩) hL hσ H locs ls hP hS hl hlen
/-- behind a call: the world as the callee left it -/
theorem kq_back {p : Program} {e : Env} {R : Room} {s : State} {m : MethodId} {args : Array Value} {below : List Frame} {meth : Method} {c : Code} {ad : Nat → Nat} {cA : ClassId} {D : va_G} {A : Nat → Prop} {H0 H : Heap} {cells slots : Nat} {Qf : State → Prop} {locs : List Loc} {ls : Array Slot} {st0 : List Value}
    (hr : va_Run p l e R s m args below meth c H locs cells slots 0 0 (F0 m pc ls st0) (st.map (vv ad)) (fun st o t => ∃ (r : Option KV) (τ : KS), o = .returned (r.map (vv ad)) ∧ kq_ty ret' r ∧ Q' r τ ∧ (∀ v, r = some v → vok v) ∧ (∀ c i, iv (τ c i)) ∧ va_P D vwCl (kq_w ad cA τ) t.heap ∧ va_F (kq_A ad) st t) (kq_A ad))
    (hS : va_S A H0 H locs) (hA : ∀ c, c < 48 → A (ad c))
    (kk : ∀ (r : Option KV) (τ : KS) (H1 : Heap) (locs1 : List Loc), kq_ty ret' r → Q' r τ → (∀ v, r = some v → vok v) → (∀ c i, iv (τ c i)) → va_P D vwCl (kq_w ad cA τ) H1 → va_S A H0 H1 locs1 → W p l e R s m args below meth c H1 locs1 cells slots Qf (F0 m (pc + 3) ls ((r.map (vv ad)).toList ++ st.map (vv ad)))) : W p l e R s m args below meth c H locs cells slots Qf (F0 m pc ls st0) := by
  intro T hT X
  obtain ⟨v, st₀, t, T', L1, h0, X', hL1, e1, e2, ⟨r, τ, hv, hty, hq, hvr, hvτ, hPt, hz, hk⟩, stp⟩ := hr T hT X
  have hv' : v = r.map (vv ad) := by cases hv; rfl
  subst hv'
  rw [h0] at hz hk
  obtain ⟨t2, a1, b1⟩ := kk r τ T'.heap (locs ++ L1) hty hq hvr hvτ (by rw [e1]; exact hPt)
    ⟨Nat.le_trans hS.1 (by rw [e1]; exact hz), fun q h1 h2 => by
      rw [e1, hk q (Nat.lt_of_lt_of_le h1 hS.1) (fun z => h2 (by obtain ⟨c9, hc9, rfl⟩ := z; exact hA c9 hc9))]; exact hS.2.1 q h1 h2, fun q hq => by
      rcases List.mem_append.mp hq with h | h
      · exact hS.2.2 q h
      · obtain ⟨c9, hc9, h9⟩ := hL1 q h
        rw [h9]; exact hA c9 hc9⟩ T' rfl X'
  exact ⟨t2, stp t2 a1, b1⟩
theorem kq_goodIn {ws : List Cond} (h : ∀ w ∈ ws, w ∈ kq_tb) : GoodIn kq_tb ws := fun w hw => ⟨h w hw, good_of_word (kq_good w (h w hw))⟩
theorem kq_cat (ad : Nat → Nat) (st : List KV) : ((st.map (vv ad)).map fun v => v.category).sum = (st.map kcat).sum := by
  rw [List.map_map]; congr 1; apply List.map_congr_left; intro v _; exact vv_cat ad v
theorem kq_blind {ad : Nat → Nat} {cA : ClassId} {D : va_G} {av : List Value} {σ : KS} : FrameBlind (va_Pc av (fun U => va_P D vwCl (kq_w ad cA σ) U.heap ∧ va_K D vwCl [(cA, .int)] U ∧ kq_N U)) := by
  intro a U g mk q
  obtain ⟨q0, qP, qK, qN⟩ := q
  exact ⟨q0, qP, va_K.moved (u := U) (U := U.calling g mk a) (Vm.Alike.refl U.vm) qK, va_Nw.same (u := U) (U := U.calling g mk a) rfl rfl qN⟩
/-- a call on an object, of any number of arguments -/
theorem ks_virt (S : Sem l cc own ret fr lo Q K) (as : List KV) (hd : decode cc pc = .ok (.invokevirtual idx, 3)) (hn : pc + 3 = n) (hm : Cond.methodLink own idx y ∈ kq_tb) (hy : kq_YV y bytes maxL ret' np ci) (hnp : as.length = np) (h : Ev l y bytes maxL ret' fr' lo' (kr a :: as) σ Q') (hroom : fr' + 1 ≤ fr ∧ 8 + (maxL + 11) + lo' ≤ lo) (hcell : kq_sh[a]? = some (.inr (ci, fs))) (hc : (st.map kcat).sum ≤ 8)
    (k : ∀ r τ, kq_ty ret' r → Q' r τ → K n L (r.toList ++ st) τ) : K pc L (as.reverse ++ kr a :: st) σ := by
  obtain ⟨p, e, R, s, m, args, below, meth, c, ad, cA, D, A, H0, cells, slots, Qf, hx, hb, hown, hts, hR, hK, hN, hi, hA, hret, rfl⟩ := S
  subst hn
  intro hst hL hσ H locs ls hP hS hl hlen
  obtain ⟨⟨hcode, hini, hn1, hn2, hpar, hplain⟩, hins, hsel, T, N, hcl⟩ := hy
  have hst' : ∀ v ∈ as, vok v := fun v hv => hst v (List.mem_append_left _ (List.mem_reverse.mpr hv))
  have hst2 : ∀ v ∈ st, vok v := fun v hv => hst v (List.mem_append_right _ (List.mem_cons_of_mem _ hv))
  have M := h (List.forall_mem_cons.mpr ⟨trivial, hst'⟩) hσ ad cA D hi
  have hG : GoodIn kq_tb (wsV own idx y.cls y (Cond.code y bytes maxL ret' :: kq_tb)) := kq_goodIn (by
    intro w hw
    unfold wsV at hw
    simp only [List.cons_append, List.nil_append, List.mem_cons] at hw
    rcases hw with rfl | rfl | rfl | rfl | rfl | hw
    · exact hm
    · exact hins
    · exact hsel
    · exact hini
    · exact hcode
    · exact hw)
  have cw := cwV (R := R) (rm := { frames := fr', cells := 0, slots := 0, locals := lo' }) (mc := 0) (ms := 0) np hts hG rfl rfl rfl ⟨rfl, hn1, hn2, hpar⟩ ⟨by rw [hR.1]; exact hroom.1, by rw [hR.2.1]; exact hroom.2⟩
  have hcat := kq_cat ad st
  refine kq_back (va_runV (As := as.map (vv ad)) (rest := st.map (vv ad)) (b := ad a) ⟨hx, hb, hlen.symm, hown, hts⟩ M cw ⟨kq_blind, va_recv hK hP hcl (kq_w_at hcell), fun U hU hW => ⟨rfl, by rw [hU]; exact hP, va_K.moved hW.alike hK, hN.warmM hW⟩⟩ rfl (by rw [List.length_map]; exact hnp) hl.1 (by simp [vv]) (lv_room (by rw [hcat]; exact hc)) hd ⟨by omega, by omega⟩) hS hA (fun r τ H1 locs1 hty hq hvr hvτ hP1 hS1 => ?_)
  have hk := k r τ hty hq (by
    intro v hv
    rcases List.mem_append.mp hv with h5 | h5
    · cases r with
      | none => simp at h5
      | some w => simp at h5; rw [h5]; exact hvr w rfl
    · exact hst2 v h5) hL hvτ H1 locs1 ls hP1 hS1 hl hlen
  have e9 : (r.toList ++ st).map (vv ad) = (r.map (vv ad)).toList ++ st.map (vv ad) := by cases r <;> simp
  rw [e9] at hk
  exact hk
theorem kq_goodS (hm : Cond.methodLink own idx y ∈ kq_tb) (hy : kq_YS y bytes maxL ret' np) : ∀ w ∈ va_wsS own idx y (Cond.code y bytes maxL ret' :: kq_tb), w ∈ kq_tb := by
  intro w hw
  unfold va_wsS at hw
  simp only [List.cons_append, List.nil_append, List.mem_cons] at hw
  rcases hw with rfl | rfl | rfl | rfl | hw
  · exact hm
  · exact hy.2
  · exact hy.1.2.1
  · exact hy.1.1
  · exact hw
theorem ks_stat (S : Sem l cc own ret fr lo Q K) (as : List KV) (hd : decode cc pc = .ok (.invokestatic idx, 3)) (hn : pc + 3 = n) (hm : Cond.methodLink own idx y ∈ kq_tb) (hy : kq_YS y bytes maxL ret' np) (hnp : as.length = np) (h : Ev l y bytes maxL ret' fr' lo' as σ Q') (hroom : fr' + 1 ≤ fr ∧ 8 + (maxL + 11) + lo' ≤ lo) (hc : (st.map kcat).sum ≤ 8)
    (k : ∀ r τ, kq_ty ret' r → Q' r τ → K n L (r.toList ++ st) τ) : K pc L (as.reverse ++ st) σ := by
  obtain ⟨p, e, R, s, m, args, below, meth, c, ad, cA, D, A, H0, cells, slots, Qf, hx, hb, hown, hts, hR, hK, hN, hi, hA, hret, rfl⟩ := S
  subst hn
  intro hst hL hσ H locs ls hP hS hl hlen
  have hst' : ∀ v ∈ as, vok v := fun v hv => hst v (List.mem_append_left _ (List.mem_reverse.mpr hv))
  have hst2 : ∀ v ∈ st, vok v := fun v hv => hst v (List.mem_append_right _ hv)
  have M := h hst' hσ ad cA D hi
  have hG : GoodIn kq_tb (va_wsS own idx y (Cond.code y bytes maxL ret' :: kq_tb)) := kq_goodIn (kq_goodS hm hy)
  have cw := va_cwS (R := R) (rm := { frames := fr', cells := 0, slots := 0, locals := lo' }) (mc := 0) (ms := 0) np hts hG rfl rfl rfl ⟨hy.1.2.2.1, hy.1.2.2.2.1, hy.1.2.2.2.2.1⟩ ⟨by rw [hR.1]; exact hroom.1, by rw [hR.2.1]; exact hroom.2⟩
  have hcat := kq_cat ad st
  refine kq_back (va_runS (As := as.map (vv ad)) (rest := st.map (vv ad)) ⟨hx, hb, hlen.symm, hown, hts⟩ M cw ⟨kq_blind, fun U hU hW => ⟨rfl, by rw [hU]; exact hP, va_K.moved hW.alike hK, hN.warmM hW⟩⟩ rfl (by rw [List.length_map]; exact hnp) hl.1 (by simp) (lv_room (by rw [hcat]; exact hc)) hd ⟨by omega, by omega⟩) hS hA (fun r τ H1 locs1 hty hq hvr hvτ hP1 hS1 => ?_)
  have hk := k r τ hty hq (by
    intro v hv
    rcases List.mem_append.mp hv with h5 | h5
    · cases r with
      | none => simp at h5
      | some w => simp at h5; rw [h5]; exact hvr w rfl
    · exact hst2 v h5) hL hvτ H1 locs1 ls hP1 hS1 hl hlen
  have e9 : (r.toList ++ st).map (vv ad) = (r.map (vv ad)).toList ++ st.map (vv ad) := by cases r <;> simp
  rw [e9] at hk
  exact hk
theorem ks_statN (S : Sem l cc own ret fr lo Q K) {x : Int} (hd : decode cc pc = .ok (.invokestatic 49, 3)) (hn : pc + 3 = n) (hown0 : own = RX0) (hy : kq_YS yX4_isRoom bytes maxL (some .boolean) 1) (h : Ev l yX4_isRoom bytes maxL (some .boolean) fr' lo' [ki x] σ Q') (hroom : fr' + 1 ≤ fr ∧ 8 + (maxL + 11) + lo' ≤ lo) (hc : (st.map kcat).sum ≤ 8)
    (k : ∀ x τ, Q' (some (ki x)) τ → K n L (ki x :: st) τ) : K pc L (ki x :: st) σ := by
  obtain ⟨p, e, R, s, m, args, below, meth, c, ad, cA, D, A, H0, cells, slots, Qf, hx, hb, hown, hts, hR, hK, hN, hi, hA, hret, rfl⟩ := S
  subst hn
  subst hown0
  intro hst hL hσ H locs ls hP hS hl hlen
  simp only [List.forall_mem_cons] at hst
  have M := h (List.forall_mem_cons.mpr ⟨hst.1, fun _ h => absurd h List.not_mem_nil⟩) hσ ad cA D hi
  have hG : GoodIn kq_tb (Cond.code yX4_isRoom bytes maxL (some .boolean) :: kq_tb) := kq_goodIn (by
    intro w hw
    rcases List.mem_cons.mp hw with rfl | hw
    · exact hy.1.1
    · exact hw)
  have cw := va_cnB (R := R) (args := args) (s := s) (own := RX0) (index := 49) (host := "DoorKeepsQuarrel") (rm := { frames := fr', cells := 0, slots := 0, locals := lo' }) (mc := 0) (ms := 0) 1 hts hG rfl rfl rfl hN (hts _ hy.1.2.1) ⟨hy.1.2.2.1, hy.1.2.2.2.1, hy.1.2.2.2.2.1⟩ ⟨by rw [hR.1]; exact hroom.1, by rw [hR.2.1]; exact hroom.2⟩
  have hcat := kq_cat ad st
  refine kq_back (va_runSN (As := [vv ad (ki x)]) (rest := st.map (vv ad)) ⟨hx, hb, hlen.symm, hown, hts⟩ M ⟨cw, hts _ hy.2, trivial⟩ ⟨kq_blind, fun U hU hW => ⟨rfl, by rw [hU]; exact hP, va_K.moved hW.alike hK, hN.warmM hW⟩⟩ rfl rfl hl.1 (by simp) (lv_room (by rw [hcat]; exact hc)) hd ⟨by omega, by omega⟩) hS hA (fun r τ H1 locs1 hty hq hvr hvτ hP1 hS1 => ?_)
  obtain ⟨z, rfl⟩ : ∃ z, r = some (ki z) := hty
  exact k z τ hq (List.forall_mem_cons.mpr ⟨hvr _ rfl, hst.2⟩) hL hvτ H1 locs1 ls hP1 hS1 hl hlen
/-! the entry -/
def kl_ex (as : List KV) : KL := as.flatMap (fun v => if kcat v = 2 then [some v, none] else [some v])
def kl_ent (as : List KV) (n : Nat) : KL := kl_ex as ++ List.replicate (n - (kl_ex as).length) none
theorem kl_ex_at (ad : Nat → Nat) {as : List KV} : ∀ {k i : Nat} {v : KV}, (kl_ex as)[i]? = some (some v) → (k + i, vv ad v) ∈ lv_args k (as.map (vv ad)) := by
  induction as with
  | nil => intro k i v h; simp [kl_ex] at h
  | cons a r ih =>
    intro k i v h
    have e : kl_ex (a :: r) = (if kcat a = 2 then [some a, none] else [some a]) ++ kl_ex r := by simp [kl_ex]
    rw [e] at h
    rw [List.map_cons]
    unfold lv_args
    rw [vv_cat]
    by_cases hc : kcat a = 2
    · rw [if_pos hc] at h ⊢
      match i, h with
      | 0, h => simp at h; rw [h]; exact List.mem_cons_self
      | 1, h => simp at h
      | j + 2, h =>
        have h5 : (kl_ex r)[j]? = some (some v) := by simpa using h
        have := ih (k := k + 2) h5
        refine List.mem_cons_of_mem _ ?_
        rw [show k + (j + 2) = k + 2 + j by omega]; exact this
    · rw [if_neg hc] at h ⊢
      match i, h with
      | 0, h => simp at h; rw [h]; exact List.mem_cons_self
      | j + 1, h =>
        have h5 : (kl_ex r)[j]? = some (some v) := by simpa using h
        have := ih (k := k + 1) h5
        refine List.mem_cons_of_mem _ ?_
        rw [show k + (j + 1) = k + 1 + j by omega]; exact this
theorem kl_ex_len (ad : Nat → Nat) (as : List KV) : (lg_sl (as.map (vv ad))).length = (kl_ex as).length := by
  induction as with
  | nil => rfl
  | cons a r ih =>
    have e : kl_ex (a :: r) = (if kcat a = 2 then [some a, none] else [some a]) ++ kl_ex r := by simp [kl_ex]
    have e2 : lg_sl ((a :: r).map (vv ad)) = (if (vv ad a).category = 2 then [.val (vv ad a), .second] else [.val (vv ad a)]) ++ lg_sl (r.map (vv ad)) := by simp [lg_sl]
    rw [e, e2, List.length_append, List.length_append, ih, vv_cat]
    split <;> rfl
theorem kl_ent_at {as : List KV} {n i : Nat} {v : KV} (h : (kl_ent as n)[i]? = some (some v)) : (kl_ex as)[i]? = some (some v) := by
  unfold kl_ent at h
  rw [List.getElem?_append] at h
  split at h
  · exact h
  · rw [List.getElem?_replicate] at h
    split at h <;> simp at h
theorem kl_ex_v {as : List KV} (hv : ∀ v ∈ as, vok v) {i : Nat} {v : KV} (h : (kl_ex as)[i]? = some (some v)) : vok v := by
  have h1 := List.mem_of_getElem? h
  unfold kl_ex at h1
  obtain ⟨a, ha, h2⟩ := List.mem_flatMap.mp h1
  split at h2
  · simp at h2; rw [h2]; exact hv a ha
  · simp at h2; rw [h2]; exact hv a ha
theorem ev_intro {np : Nat} (hy : kq_Y y bytes maxL ret np) (hsl : (kl_ex as).length ≤ maxL) (h : (∀ v ∈ as, vok v) → (∀ c i, iv (σ c i)) → ∀ K, Sem l bytes y.cls ret fr lo Q K → K 0 (kl_ent as maxL) [] σ) : Ev l y bytes maxL ret fr lo as σ Q := by
  intro hv hσ ad cA D hi
  refine Met.ofW (cc := bytes) (maxL := maxL) (ret := ret) hy.2.2.2.2.2 rfl ?_
  intro p e s m args below meth c s₁ B hml hv0
  obtain ⟨rfl, hP, hK, hN⟩ := hv0
  have hx := B.exec
  have hb := B.bytes
  have hr := B.returns
  have hts0 := atoms_spec (ws := Cond.code y bytes maxL ret :: kq_tb) B.pre
  have hown : s.vm.findClass y.cls = some m.cls := findClass_of_methodNamed B.named
  have hlocks := B.notSynchronized
  have hK0 := h hv hσ (KX l p e ({ frames := fr, cells := 0, slots := 0, locals := lo } : Room) s m (as.map (vv ad)).toArray below meth c ad cA D (kq_A ad) s.heap 0 0 (MQ below (fun _ st o t => ∃ (r : Option KV) (τ : KS), o = .returned (r.map (vv ad)) ∧ kq_ty ret r ∧ Q r τ ∧ (∀ v, r = some v → vok v) ∧ (∀ c i, iv (τ c i)) ∧ va_P D vwCl (kq_w ad cA τ) t.heap ∧ va_F (kq_A ad) st t) (as.map (vv ad)).toArray s 0 0 (kq_A ad))) ⟨p, e, ({ frames := fr, cells := 0, slots := 0, locals := lo } : Room), s, m, (as.map (vv ad)).toArray, below, meth, c, ad, cA, D, kq_A ad, s.heap, 0, 0, (MQ below (fun _ st o t => ∃ (r : Option KV) (τ : KS), o = .returned (r.map (vv ad)) ∧ kq_ty ret r ∧ Q r τ ∧ (∀ v, r = some v → vok v) ∧ (∀ c i, iv (τ c i)) ∧ va_P D vwCl (kq_w ad cA τ) t.heap ∧ va_F (kq_A ad) st t) (as.map (vv ad)).toArray s 0 0 (kq_A ad)), hx, hb, hown, fun w hw => hts0 w (List.mem_cons_of_mem _ hw), ⟨rfl, rfl, Nat.zero_le _, Nat.zero_le _⟩, hK, hN, hi, fun c hc => ⟨c, hc, rfl⟩, ?_, rfl⟩
  rotate_left
  · intro r τ pc H locs ls hret hq hvr hvτ hP1 hS1
    match r, hret, hq, hvr with
    | none, hret, hq, hvr =>
      exact W.vret hx hb (hr.trans hret.2) (fun t ht hW => ⟨none, τ, rfl, by rw [hret.2]; exact rfl, hq, hvr, hvτ, by rw [ht]; exact hP1, hS1.F ht⟩) hS1.2.2 hret.1 hlocks
    | some (.inl x), hret, hq, hvr =>
      obtain ⟨hd, hrt⟩ := hret
      rcases hrt with hrt | ⟨hrt, hx01⟩
      · exact W.iret hx hb (hr.trans hrt) (fun t ht hW => ⟨some (ki x), τ, rfl, by rw [hrt]; exact ⟨x, rfl⟩, hq, hvr, hvτ, by rw [ht]; exact hP1, hS1.F ht⟩) hS1.2.2 hd hlocks
      · refine W.zret hx hb (hr.trans hrt) ?_ (fun t ht hW => ⟨some (ki x), τ, rfl, by rw [hrt]; exact ⟨x, rfl⟩, hq, hvr, hvτ, by rw [ht]; exact hP1, hS1.F ht⟩) hS1.2.2 hd hlocks
        rcases hx01 with rfl | rfl <;> rfl
    | some (.inr (.inl x)), hret, hq, hvr =>
      exact W.lret hx hb (hr.trans hret.2) (fun t ht hW => ⟨some (kj x), τ, rfl, by rw [hret.2]; exact ⟨x, rfl⟩, hq, hvr, hvτ, by rw [ht]; exact hP1, hS1.F ht⟩) hS1.2.2 hret.1 hlocks
    | some (.inr (.inr x)), hret, hq, hvr => exact hret.elim
  rw [lg_entry_eq]
  have hl := lv_entry (as.map (vv ad)) (n := maxL) (by rw [kl_ex_len]; exact hsl)
  have hlen : (kl_ent as maxL).length = maxL := by unfold kl_ent; simp; omega
  exact hK0 (fun _ h => absurd h List.not_mem_nil) (fun i v h => kl_ex_v hv (kl_ent_at h)) hσ s.heap [] _ hP va_S.rf ⟨by rw [hl.1, hlen], hl.2.1, fun i v h => by
    have h5 := kl_ex_at ad (k := 0) (kl_ent_at h)
    rw [Nat.zero_add] at h5
    exact hl.2.2 (i, vv ad v) h5⟩ (by rw [hlen, hml])
end KCALL
section KARITY
variable {l : Launch} {cc : ByteArray} {own : String} {ret : Option FieldType} {fr lo : Nat} {Q : Option KV → KS → Prop} {K : Nat → KL → List KV → KS → Prop} {pc n : Nat} {L : KL} {st : List KV} {σ : KS} {y : MethodName} {bytes : ByteArray} {maxL : Nat} {fr' lo' idx ci a : Nat} {Q' : Option KV → KS → Prop} {fs : List (Option Nat)}
theorem ks_v0i (S : Sem l cc own ret fr lo Q K) (hd : decode cc pc = .ok (.invokevirtual idx, 3)) (hn : pc + 3 = n) (hm : Cond.methodLink own idx y ∈ kq_tb) (hy : kq_YV y bytes maxL (some .int) 0 ci) (h : Ev l y bytes maxL (some .int) fr' lo' [kr a] σ Q') (hroom : fr' + 1 ≤ fr ∧ 8 + (maxL + 11) + lo' ≤ lo) (hcell : kq_sh[a]? = some (.inr (ci, fs))) (hc : (st.map kcat).sum ≤ 8) (k : ∀ x τ, Q' (some (ki x)) τ → K n L (ki x :: st) τ) : K pc L (kr a :: st) σ := ks_virt S [] hd hn hm hy rfl h hroom hcell hc (fun r τ ht q => by obtain ⟨x, rfl⟩ : ∃ x, r = some (ki x) := ht; exact k x τ q)
theorem ks_v0z (S : Sem l cc own ret fr lo Q K) (hd : decode cc pc = .ok (.invokevirtual idx, 3)) (hn : pc + 3 = n) (hm : Cond.methodLink own idx y ∈ kq_tb) (hy : kq_YV y bytes maxL (some .boolean) 0 ci) (h : Ev l y bytes maxL (some .boolean) fr' lo' [kr a] σ Q') (hroom : fr' + 1 ≤ fr ∧ 8 + (maxL + 11) + lo' ≤ lo) (hcell : kq_sh[a]? = some (.inr (ci, fs))) (hc : (st.map kcat).sum ≤ 8) (k : ∀ x τ, Q' (some (ki x)) τ → K n L (ki x :: st) τ) : K pc L (kr a :: st) σ := ks_virt S [] hd hn hm hy rfl h hroom hcell hc (fun r τ ht q => by obtain ⟨x, rfl⟩ : ∃ x, r = some (ki x) := ht; exact k x τ q)
theorem ks_v0v (S : Sem l cc own ret fr lo Q K) (hd : decode cc pc = .ok (.invokevirtual idx, 3)) (hn : pc + 3 = n) (hm : Cond.methodLink own idx y ∈ kq_tb) (hy : kq_YV y bytes maxL none 0 ci) (h : Ev l y bytes maxL none fr' lo' [kr a] σ Q') (hroom : fr' + 1 ≤ fr ∧ 8 + (maxL + 11) + lo' ≤ lo) (hcell : kq_sh[a]? = some (.inr (ci, fs))) (hc : (st.map kcat).sum ≤ 8) (k : ∀ τ, Q' none τ → K n L st τ) : K pc L (kr a :: st) σ := ks_virt S [] hd hn hm hy rfl h hroom hcell hc (fun r τ ht q => by obtain rfl : r = none := ht; exact k τ q)
theorem ks_v0j (S : Sem l cc own ret fr lo Q K) (hd : decode cc pc = .ok (.invokevirtual idx, 3)) (hn : pc + 3 = n) (hm : Cond.methodLink own idx y ∈ kq_tb) (hy : kq_YV y bytes maxL (some .long) 0 ci) (h : Ev l y bytes maxL (some .long) fr' lo' [kr a] σ Q') (hroom : fr' + 1 ≤ fr ∧ 8 + (maxL + 11) + lo' ≤ lo) (hcell : kq_sh[a]? = some (.inr (ci, fs))) (hc : (st.map kcat).sum ≤ 8) (k : ∀ x τ, Q' (some (kj x)) τ → K n L (kj x :: st) τ) : K pc L (kr a :: st) σ := ks_virt S [] hd hn hm hy rfl h hroom hcell hc (fun r τ ht q => by obtain ⟨x, rfl⟩ : ∃ x, r = some (kj x) := ht; exact k x τ q)
theorem ks_v1i {b1 : KV} (S : Sem l cc own ret fr lo Q K) (hd : decode cc pc = .ok (.invokevirtual idx, 3)) (hn : pc + 3 = n) (hm : Cond.methodLink own idx y ∈ kq_tb) (hy : kq_YV y bytes maxL (some .int) 1 ci) (h : Ev l y bytes maxL (some .int) fr' lo' [kr a, b1] σ Q') (hroom : fr' + 1 ≤ fr ∧ 8 + (maxL + 11) + lo' ≤ lo) (hcell : kq_sh[a]? = some (.inr (ci, fs))) (hc : (st.map kcat).sum ≤ 8) (k : ∀ x τ, Q' (some (ki x)) τ → K n L (ki x :: st) τ) : K pc L (b1 :: kr a :: st) σ := ks_virt S [b1] hd hn hm hy rfl h hroom hcell hc (fun r τ ht q => by obtain ⟨x, rfl⟩ : ∃ x, r = some (ki x) := ht; exact k x τ q)
theorem ks_v1z {b1 : KV} (S : Sem l cc own ret fr lo Q K) (hd : decode cc pc = .ok (.invokevirtual idx, 3)) (hn : pc + 3 = n) (hm : Cond.methodLink own idx y ∈ kq_tb) (hy : kq_YV y bytes maxL (some .boolean) 1 ci) (h : Ev l y bytes maxL (some .boolean) fr' lo' [kr a, b1] σ Q') (hroom : fr' + 1 ≤ fr ∧ 8 + (maxL + 11) + lo' ≤ lo) (hcell : kq_sh[a]? = some (.inr (ci, fs))) (hc : (st.map kcat).sum ≤ 8) (k : ∀ x τ, Q' (some (ki x)) τ → K n L (ki x :: st) τ) : K pc L (b1 :: kr a :: st) σ := ks_virt S [b1] hd hn hm hy rfl h hroom hcell hc (fun r τ ht q => by obtain ⟨x, rfl⟩ : ∃ x, r = some (ki x) := ht; exact k x τ q)
theorem ks_v1v {b1 : KV} (S : Sem l cc own ret fr lo Q K) (hd : decode cc pc = .ok (.invokevirtual idx, 3)) (hn : pc + 3 = n) (hm : Cond.methodLink own idx y ∈ kq_tb) (hy : kq_YV y bytes maxL none 1 ci) (h : Ev l y bytes maxL none fr' lo' [kr a, b1] σ Q') (hroom : fr' + 1 ≤ fr ∧ 8 + (maxL + 11) + lo' ≤ lo) (hcell : kq_sh[a]? = some (.inr (ci, fs))) (hc : (st.map kcat).sum ≤ 8) (k : ∀ τ, Q' none τ → K n L st τ) : K pc L (b1 :: kr a :: st) σ := ks_virt S [b1] hd hn hm hy rfl h hroom hcell hc (fun r τ ht q => by obtain rfl : r = none := ht; exact k τ q)
theorem ks_v1j {b1 : KV} (S : Sem l cc own ret fr lo Q K) (hd : decode cc pc = .ok (.invokevirtual idx, 3)) (hn : pc + 3 = n) (hm : Cond.methodLink own idx y ∈ kq_tb) (hy : kq_YV y bytes maxL (some .long) 1 ci) (h : Ev l y bytes maxL (some .long) fr' lo' [kr a, b1] σ Q') (hroom : fr' + 1 ≤ fr ∧ 8 + (maxL + 11) + lo' ≤ lo) (hcell : kq_sh[a]? = some (.inr (ci, fs))) (hc : (st.map kcat).sum ≤ 8) (k : ∀ x τ, Q' (some (kj x)) τ → K n L (kj x :: st) τ) : K pc L (b1 :: kr a :: st) σ := ks_virt S [b1] hd hn hm hy rfl h hroom hcell hc (fun r τ ht q => by obtain ⟨x, rfl⟩ : ∃ x, r = some (kj x) := ht; exact k x τ q)
theorem ks_v2i {b1 b2 : KV} (S : Sem l cc own ret fr lo Q K) (hd : decode cc pc = .ok (.invokevirtual idx, 3)) (hn : pc + 3 = n) (hm : Cond.methodLink own idx y ∈ kq_tb) (hy : kq_YV y bytes maxL (some .int) 2 ci) (h : Ev l y bytes maxL (some .int) fr' lo' [kr a, b1, b2] σ Q') (hroom : fr' + 1 ≤ fr ∧ 8 + (maxL + 11) + lo' ≤ lo) (hcell : kq_sh[a]? = some (.inr (ci, fs))) (hc : (st.map kcat).sum ≤ 8) (k : ∀ x τ, Q' (some (ki x)) τ → K n L (ki x :: st) τ) : K pc L (b2 :: b1 :: kr a :: st) σ := ks_virt S [b1, b2] hd hn hm hy rfl h hroom hcell hc (fun r τ ht q => by obtain ⟨x, rfl⟩ : ∃ x, r = some (ki x) := ht; exact k x τ q)
theorem ks_v2z {b1 b2 : KV} (S : Sem l cc own ret fr lo Q K) (hd : decode cc pc = .ok (.invokevirtual idx, 3)) (hn : pc + 3 = n) (hm : Cond.methodLink own idx y ∈ kq_tb) (hy : kq_YV y bytes maxL (some .boolean) 2 ci) (h : Ev l y bytes maxL (some .boolean) fr' lo' [kr a, b1, b2] σ Q') (hroom : fr' + 1 ≤ fr ∧ 8 + (maxL + 11) + lo' ≤ lo) (hcell : kq_sh[a]? = some (.inr (ci, fs))) (hc : (st.map kcat).sum ≤ 8) (k : ∀ x τ, Q' (some (ki x)) τ → K n L (ki x :: st) τ) : K pc L (b2 :: b1 :: kr a :: st) σ := ks_virt S [b1, b2] hd hn hm hy rfl h hroom hcell hc (fun r τ ht q => by obtain ⟨x, rfl⟩ : ∃ x, r = some (ki x) := ht; exact k x τ q)
theorem ks_v2v {b1 b2 : KV} (S : Sem l cc own ret fr lo Q K) (hd : decode cc pc = .ok (.invokevirtual idx, 3)) (hn : pc + 3 = n) (hm : Cond.methodLink own idx y ∈ kq_tb) (hy : kq_YV y bytes maxL none 2 ci) (h : Ev l y bytes maxL none fr' lo' [kr a, b1, b2] σ Q') (hroom : fr' + 1 ≤ fr ∧ 8 + (maxL + 11) + lo' ≤ lo) (hcell : kq_sh[a]? = some (.inr (ci, fs))) (hc : (st.map kcat).sum ≤ 8) (k : ∀ τ, Q' none τ → K n L st τ) : K pc L (b2 :: b1 :: kr a :: st) σ := ks_virt S [b1, b2] hd hn hm hy rfl h hroom hcell hc (fun r τ ht q => by obtain rfl : r = none := ht; exact k τ q)
theorem ks_v2j {b1 b2 : KV} (S : Sem l cc own ret fr lo Q K) (hd : decode cc pc = .ok (.invokevirtual idx, 3)) (hn : pc + 3 = n) (hm : Cond.methodLink own idx y ∈ kq_tb) (hy : kq_YV y bytes maxL (some .long) 2 ci) (h : Ev l y bytes maxL (some .long) fr' lo' [kr a, b1, b2] σ Q') (hroom : fr' + 1 ≤ fr ∧ 8 + (maxL + 11) + lo' ≤ lo) (hcell : kq_sh[a]? = some (.inr (ci, fs))) (hc : (st.map kcat).sum ≤ 8) (k : ∀ x τ, Q' (some (kj x)) τ → K n L (kj x :: st) τ) : K pc L (b2 :: b1 :: kr a :: st) σ := ks_virt S [b1, b2] hd hn hm hy rfl h hroom hcell hc (fun r τ ht q => by obtain ⟨x, rfl⟩ : ∃ x, r = some (kj x) := ht; exact k x τ q)
theorem ks_v3i {b1 b2 b3 : KV} (S : Sem l cc own ret fr lo Q K) (hd : decode cc pc = .ok (.invokevirtual idx, 3)) (hn : pc + 3 = n) (hm : Cond.methodLink own idx y ∈ kq_tb) (hy : kq_YV y bytes maxL (some .int) 3 ci) (h : Ev l y bytes maxL (some .int) fr' lo' [kr a, b1, b2, b3] σ Q') (hroom : fr' + 1 ≤ fr ∧ 8 + (maxL + 11) + lo' ≤ lo) (hcell : kq_sh[a]? = some (.inr (ci, fs))) (hc : (st.map kcat).sum ≤ 8) (k : ∀ x τ, Q' (some (ki x)) τ → K n L (ki x :: st) τ) : K pc L (b3 :: b2 :: b1 :: kr a :: st) σ := ks_virt S [b1, b2, b3] hd hn hm hy rfl h hroom hcell hc (fun r τ ht q => by obtain ⟨x, rfl⟩ : ∃ x, r = some (ki x) := ht; exact k x τ q)
theorem ks_v3z {b1 b2 b3 : KV} (S : Sem l cc own ret fr lo Q K) (hd : decode cc pc = .ok (.invokevirtual idx, 3)) (hn : pc + 3 = n) (hm : Cond.methodLink own idx y ∈ kq_tb) (hy : kq_YV y bytes maxL (some .boolean) 3 ci) (h : Ev l y bytes maxL (some .boolean) fr' lo' [kr a, b1, b2, b3] σ Q') (hroom : fr' + 1 ≤ fr ∧ 8 + (maxL + 11) + lo' ≤ lo) (hcell : kq_sh[a]? = some (.inr (ci, fs))) (hc : (st.map kcat).sum ≤ 8) (k : ∀ x τ, Q' (some (ki x)) τ → K n L (ki x :: st) τ) : K pc L (b3 :: b2 :: b1 :: kr a :: st) σ := ks_virt S [b1, b2, b3] hd hn hm hy rfl h hroom hcell hc (fun r τ ht q => by obtain ⟨x, rfl⟩ : ∃ x, r = some (ki x) := ht; exact k x τ q)
theorem ks_v3v {b1 b2 b3 : KV} (S : Sem l cc own ret fr lo Q K) (hd : decode cc pc = .ok (.invokevirtual idx, 3)) (hn : pc + 3 = n) (hm : Cond.methodLink own idx y ∈ kq_tb) (hy : kq_YV y bytes maxL none 3 ci) (h : Ev l y bytes maxL none fr' lo' [kr a, b1, b2, b3] σ Q') (hroom : fr' + 1 ≤ fr ∧ 8 + (maxL + 11) + lo' ≤ lo) (hcell : kq_sh[a]? = some (.inr (ci, fs))) (hc : (st.map kcat).sum ≤ 8) (k : ∀ τ, Q' none τ → K n L st τ) : K pc L (b3 :: b2 :: b1 :: kr a :: st) σ := ks_virt S [b1, b2, b3] hd hn hm hy rfl h hroom hcell hc (fun r τ ht q => by obtain rfl : r = none := ht; exact k τ q)
theorem ks_v3j {b1 b2 b3 : KV} (S : Sem l cc own ret fr lo Q K) (hd : decode cc pc = .ok (.invokevirtual idx, 3)) (hn : pc + 3 = n) (hm : Cond.methodLink own idx y ∈ kq_tb) (hy : kq_YV y bytes maxL (some .long) 3 ci) (h : Ev l y bytes maxL (some .long) fr' lo' [kr a, b1, b2, b3] σ Q') (hroom : fr' + 1 ≤ fr ∧ 8 + (maxL + 11) + lo' ≤ lo) (hcell : kq_sh[a]? = some (.inr (ci, fs))) (hc : (st.map kcat).sum ≤ 8) (k : ∀ x τ, Q' (some (kj x)) τ → K n L (kj x :: st) τ) : K pc L (b3 :: b2 :: b1 :: kr a :: st) σ := ks_virt S [b1, b2, b3] hd hn hm hy rfl h hroom hcell hc (fun r τ ht q => by obtain ⟨x, rfl⟩ : ∃ x, r = some (kj x) := ht; exact k x τ q)
theorem ks_v4i {b1 b2 b3 b4 : KV} (S : Sem l cc own ret fr lo Q K) (hd : decode cc pc = .ok (.invokevirtual idx, 3)) (hn : pc + 3 = n) (hm : Cond.methodLink own idx y ∈ kq_tb) (hy : kq_YV y bytes maxL (some .int) 4 ci) (h : Ev l y bytes maxL (some .int) fr' lo' [kr a, b1, b2, b3, b4] σ Q') (hroom : fr' + 1 ≤ fr ∧ 8 + (maxL + 11) + lo' ≤ lo) (hcell : kq_sh[a]? = some (.inr (ci, fs))) (hc : (st.map kcat).sum ≤ 8) (k : ∀ x τ, Q' (some (ki x)) τ → K n L (ki x :: st) τ) : K pc L (b4 :: b3 :: b2 :: b1 :: kr a :: st) σ := ks_virt S [b1, b2, b3, b4] hd hn hm hy rfl h hroom hcell hc (fun r τ ht q => by obtain ⟨x, rfl⟩ : ∃ x, r = some (ki x) := ht; exact k x τ q)
theorem ks_v4z {b1 b2 b3 b4 : KV} (S : Sem l cc own ret fr lo Q K) (hd : decode cc pc = .ok (.invokevirtual idx, 3)) (hn : pc + 3 = n) (hm : Cond.methodLink own idx y ∈ kq_tb) (hy : kq_YV y bytes maxL (some .boolean) 4 ci) (h : Ev l y bytes maxL (some .boolean) fr' lo' [kr a, b1, b2, b3, b4] σ Q') (hroom : fr' + 1 ≤ fr ∧ 8 + (maxL + 11) + lo' ≤ lo) (hcell : kq_sh[a]? = some (.inr (ci, fs))) (hc : (st.map kcat).sum ≤ 8) (k : ∀ x τ, Q' (some (ki x)) τ → K n L (ki x :: st) τ) : K pc L (b4 :: b3 :: b2 :: b1 :: kr a :: st) σ := ks_virt S [b1, b2, b3, b4] hd hn hm hy rfl h hroom hcell hc (fun r τ ht q => by obtain ⟨x, rfl⟩ : ∃ x, r = some (ki x) := ht; exact k x τ q)
theorem ks_v4v {b1 b2 b3 b4 : KV} (S : Sem l cc own ret fr lo Q K) (hd : decode cc pc = .ok (.invokevirtual idx, 3)) (hn : pc + 3 = n) (hm : Cond.methodLink own idx y ∈ kq_tb) (hy : kq_YV y bytes maxL none 4 ci) (h : Ev l y bytes maxL none fr' lo' [kr a, b1, b2, b3, b4] σ Q') (hroom : fr' + 1 ≤ fr ∧ 8 + (maxL + 11) + lo' ≤ lo) (hcell : kq_sh[a]? = some (.inr (ci, fs))) (hc : (st.map kcat).sum ≤ 8) (k : ∀ τ, Q' none τ → K n L st τ) : K pc L (b4 :: b3 :: b2 :: b1 :: kr a :: st) σ := ks_virt S [b1, b2, b3, b4] hd hn hm hy rfl h hroom hcell hc (fun r τ ht q => by obtain rfl : r = none := ht; exact k τ q)
theorem ks_v4j {b1 b2 b3 b4 : KV} (S : Sem l cc own ret fr lo Q K) (hd : decode cc pc = .ok (.invokevirtual idx, 3)) (hn : pc + 3 = n) (hm : Cond.methodLink own idx y ∈ kq_tb) (hy : kq_YV y bytes maxL (some .long) 4 ci) (h : Ev l y bytes maxL (some .long) fr' lo' [kr a, b1, b2, b3, b4] σ Q') (hroom : fr' + 1 ≤ fr ∧ 8 + (maxL + 11) + lo' ≤ lo) (hcell : kq_sh[a]? = some (.inr (ci, fs))) (hc : (st.map kcat).sum ≤ 8) (k : ∀ x τ, Q' (some (kj x)) τ → K n L (kj x :: st) τ) : K pc L (b4 :: b3 :: b2 :: b1 :: kr a :: st) σ := ks_virt S [b1, b2, b3, b4] hd hn hm hy rfl h hroom hcell hc (fun r τ ht q => by obtain ⟨x, rfl⟩ : ∃ x, r = some (kj x) := ht; exact k x τ q)
theorem ks_v5i {b1 b2 b3 b4 b5 : KV} (S : Sem l cc own ret fr lo Q K) (hd : decode cc pc = .ok (.invokevirtual idx, 3)) (hn : pc + 3 = n) (hm : Cond.methodLink own idx y ∈ kq_tb) (hy : kq_YV y bytes maxL (some .int) 5 ci) (h : Ev l y bytes maxL (some .int) fr' lo' [kr a, b1, b2, b3, b4, b5] σ Q') (hroom : fr' + 1 ≤ fr ∧ 8 + (maxL + 11) + lo' ≤ lo) (hcell : kq_sh[a]? = some (.inr (ci, fs))) (hc : (st.map kcat).sum ≤ 8) (k : ∀ x τ, Q' (some (ki x)) τ → K n L (ki x :: st) τ) : K pc L (b5 :: b4 :: b3 :: b2 :: b1 :: kr a :: st) σ := ks_virt S [b1, b2, b3, b4, b5] hd hn hm hy rfl h hroom hcell hc (fun r τ ht q => by obtain ⟨x, rfl⟩ : ∃ x, r = some (ki x) := ht; exact k x τ q)
theorem ks_v5z {b1 b2 b3 b4 b5 : KV} (S : Sem l cc own ret fr lo Q K) (hd : decode cc pc = .ok (.invokevirtual idx, 3)) (hn : pc + 3 = n) (hm : Cond.methodLink own idx y ∈ kq_tb) (hy : kq_YV y bytes maxL (some .boolean) 5 ci) (h : Ev l y bytes maxL (some .boolean) fr' lo' [kr a, b1, b2, b3, b4, b5] σ Q') (hroom : fr' + 1 ≤ fr ∧ 8 + (maxL + 11) + lo' ≤ lo) (hcell : kq_sh[a]? = some (.inr (ci, fs))) (hc : (st.map kcat).sum ≤ 8) (k : ∀ x τ, Q' (some (ki x)) τ → K n L (ki x :: st) τ) : K pc L (b5 :: b4 :: b3 :: b2 :: b1 :: kr a :: st) σ := ks_virt S [b1, b2, b3, b4, b5] hd hn hm hy rfl h hroom hcell hc (fun r τ ht q => by obtain ⟨x, rfl⟩ : ∃ x, r = some (ki x) := ht; exact k x τ q)
theorem ks_v5v {b1 b2 b3 b4 b5 : KV} (S : Sem l cc own ret fr lo Q K) (hd : decode cc pc = .ok (.invokevirtual idx, 3)) (hn : pc + 3 = n) (hm : Cond.methodLink own idx y ∈ kq_tb) (hy : kq_YV y bytes maxL none 5 ci) (h : Ev l y bytes maxL none fr' lo' [kr a, b1, b2, b3, b4, b5] σ Q') (hroom : fr' + 1 ≤ fr ∧ 8 + (maxL + 11) + lo' ≤ lo) (hcell : kq_sh[a]? = some (.inr (ci, fs))) (hc : (st.map kcat).sum ≤ 8) (k : ∀ τ, Q' none τ → K n L st τ) : K pc L (b5 :: b4 :: b3 :: b2 :: b1 :: kr a :: st) σ := ks_virt S [b1, b2, b3, b4, b5] hd hn hm hy rfl h hroom hcell hc (fun r τ ht q => by obtain rfl : r = none := ht; exact k τ q)
theorem ks_v5j {b1 b2 b3 b4 b5 : KV} (S : Sem l cc own ret fr lo Q K) (hd : decode cc pc = .ok (.invokevirtual idx, 3)) (hn : pc + 3 = n) (hm : Cond.methodLink own idx y ∈ kq_tb) (hy : kq_YV y bytes maxL (some .long) 5 ci) (h : Ev l y bytes maxL (some .long) fr' lo' [kr a, b1, b2, b3, b4, b5] σ Q') (hroom : fr' + 1 ≤ fr ∧ 8 + (maxL + 11) + lo' ≤ lo) (hcell : kq_sh[a]? = some (.inr (ci, fs))) (hc : (st.map kcat).sum ≤ 8) (k : ∀ x τ, Q' (some (kj x)) τ → K n L (kj x :: st) τ) : K pc L (b5 :: b4 :: b3 :: b2 :: b1 :: kr a :: st) σ := ks_virt S [b1, b2, b3, b4, b5] hd hn hm hy rfl h hroom hcell hc (fun r τ ht q => by obtain ⟨x, rfl⟩ : ∃ x, r = some (kj x) := ht; exact k x τ q)
theorem ks_v6i {b1 b2 b3 b4 b5 b6 : KV} (S : Sem l cc own ret fr lo Q K) (hd : decode cc pc = .ok (.invokevirtual idx, 3)) (hn : pc + 3 = n) (hm : Cond.methodLink own idx y ∈ kq_tb) (hy : kq_YV y bytes maxL (some .int) 6 ci) (h : Ev l y bytes maxL (some .int) fr' lo' [kr a, b1, b2, b3, b4, b5, b6] σ Q') (hroom : fr' + 1 ≤ fr ∧ 8 + (maxL + 11) + lo' ≤ lo) (hcell : kq_sh[a]? = some (.inr (ci, fs))) (hc : (st.map kcat).sum ≤ 8) (k : ∀ x τ, Q' (some (ki x)) τ → K n L (ki x :: st) τ) : K pc L (b6 :: b5 :: b4 :: b3 :: b2 :: b1 :: kr a :: st) σ := ks_virt S [b1, b2, b3, b4, b5, b6] hd hn hm hy rfl h hroom hcell hc (fun r τ ht q => by obtain ⟨x, rfl⟩ : ∃ x, r = some (ki x) := ht; exact k x τ q)
theorem ks_v6z {b1 b2 b3 b4 b5 b6 : KV} (S : Sem l cc own ret fr lo Q K) (hd : decode cc pc = .ok (.invokevirtual idx, 3)) (hn : pc + 3 = n) (hm : Cond.methodLink own idx y ∈ kq_tb) (hy : kq_YV y bytes maxL (some .boolean) 6 ci) (h : Ev l y bytes maxL (some .boolean) fr' lo' [kr a, b1, b2, b3, b4, b5, b6] σ Q') (hroom : fr' + 1 ≤ fr ∧ 8 + (maxL + 11) + lo' ≤ lo) (hcell : kq_sh[a]? = some (.inr (ci, fs))) (hc : (st.map kcat).sum ≤ 8) (k : ∀ x τ, Q' (some (ki x)) τ → K n L (ki x :: st) τ) : K pc L (b6 :: b5 :: b4 :: b3 :: b2 :: b1 :: kr a :: st) σ := ks_virt S [b1, b2, b3, b4, b5, b6] hd hn hm hy rfl h hroom hcell hc (fun r τ ht q => by obtain ⟨x, rfl⟩ : ∃ x, r = some (ki x) := ht; exact k x τ q)
theorem ks_v6v {b1 b2 b3 b4 b5 b6 : KV} (S : Sem l cc own ret fr lo Q K) (hd : decode cc pc = .ok (.invokevirtual idx, 3)) (hn : pc + 3 = n) (hm : Cond.methodLink own idx y ∈ kq_tb) (hy : kq_YV y bytes maxL none 6 ci) (h : Ev l y bytes maxL none fr' lo' [kr a, b1, b2, b3, b4, b5, b6] σ Q') (hroom : fr' + 1 ≤ fr ∧ 8 + (maxL + 11) + lo' ≤ lo) (hcell : kq_sh[a]? = some (.inr (ci, fs))) (hc : (st.map kcat).sum ≤ 8) (k : ∀ τ, Q' none τ → K n L st τ) : K pc L (b6 :: b5 :: b4 :: b3 :: b2 :: b1 :: kr a :: st) σ := ks_virt S [b1, b2, b3, b4, b5, b6] hd hn hm hy rfl h hroom hcell hc (fun r τ ht q => by obtain rfl : r = none := ht; exact k τ q)
theorem ks_v6j {b1 b2 b3 b4 b5 b6 : KV} (S : Sem l cc own ret fr lo Q K) (hd : decode cc pc = .ok (.invokevirtual idx, 3)) (hn : pc + 3 = n) (hm : Cond.methodLink own idx y ∈ kq_tb) (hy : kq_YV y bytes maxL (some .long) 6 ci) (h : Ev l y bytes maxL (some .long) fr' lo' [kr a, b1, b2, b3, b4, b5, b6] σ Q') (hroom : fr' + 1 ≤ fr ∧ 8 + (maxL + 11) + lo' ≤ lo) (hcell : kq_sh[a]? = some (.inr (ci, fs))) (hc : (st.map kcat).sum ≤ 8) (k : ∀ x τ, Q' (some (kj x)) τ → K n L (kj x :: st) τ) : K pc L (b6 :: b5 :: b4 :: b3 :: b2 :: b1 :: kr a :: st) σ := ks_virt S [b1, b2, b3, b4, b5, b6] hd hn hm hy rfl h hroom hcell hc (fun r τ ht q => by obtain ⟨x, rfl⟩ : ∃ x, r = some (kj x) := ht; exact k x τ q)
theorem ks_s1i {b1 : KV} (S : Sem l cc own ret fr lo Q K) (hd : decode cc pc = .ok (.invokestatic idx, 3)) (hn : pc + 3 = n) (hm : Cond.methodLink own idx y ∈ kq_tb) (hy : kq_YS y bytes maxL (some .int) 1) (h : Ev l y bytes maxL (some .int) fr' lo' [b1] σ Q') (hroom : fr' + 1 ≤ fr ∧ 8 + (maxL + 11) + lo' ≤ lo) (hc : (st.map kcat).sum ≤ 8) (k : ∀ x τ, Q' (some (ki x)) τ → K n L (ki x :: st) τ) : K pc L (b1 :: st) σ := ks_stat S [b1] hd hn hm hy rfl h hroom hc (fun r τ ht q => by obtain ⟨x, rfl⟩ : ∃ x, r = some (ki x) := ht; exact k x τ q)
theorem ks_s1z {b1 : KV} (S : Sem l cc own ret fr lo Q K) (hd : decode cc pc = .ok (.invokestatic idx, 3)) (hn : pc + 3 = n) (hm : Cond.methodLink own idx y ∈ kq_tb) (hy : kq_YS y bytes maxL (some .boolean) 1) (h : Ev l y bytes maxL (some .boolean) fr' lo' [b1] σ Q') (hroom : fr' + 1 ≤ fr ∧ 8 + (maxL + 11) + lo' ≤ lo) (hc : (st.map kcat).sum ≤ 8) (k : ∀ x τ, Q' (some (ki x)) τ → K n L (ki x :: st) τ) : K pc L (b1 :: st) σ := ks_stat S [b1] hd hn hm hy rfl h hroom hc (fun r τ ht q => by obtain ⟨x, rfl⟩ : ∃ x, r = some (ki x) := ht; exact k x τ q)
theorem ks_s1v {b1 : KV} (S : Sem l cc own ret fr lo Q K) (hd : decode cc pc = .ok (.invokestatic idx, 3)) (hn : pc + 3 = n) (hm : Cond.methodLink own idx y ∈ kq_tb) (hy : kq_YS y bytes maxL none 1) (h : Ev l y bytes maxL none fr' lo' [b1] σ Q') (hroom : fr' + 1 ≤ fr ∧ 8 + (maxL + 11) + lo' ≤ lo) (hc : (st.map kcat).sum ≤ 8) (k : ∀ τ, Q' none τ → K n L st τ) : K pc L (b1 :: st) σ := ks_stat S [b1] hd hn hm hy rfl h hroom hc (fun r τ ht q => by obtain rfl : r = none := ht; exact k τ q)
theorem ks_s1j {b1 : KV} (S : Sem l cc own ret fr lo Q K) (hd : decode cc pc = .ok (.invokestatic idx, 3)) (hn : pc + 3 = n) (hm : Cond.methodLink own idx y ∈ kq_tb) (hy : kq_YS y bytes maxL (some .long) 1) (h : Ev l y bytes maxL (some .long) fr' lo' [b1] σ Q') (hroom : fr' + 1 ≤ fr ∧ 8 + (maxL + 11) + lo' ≤ lo) (hc : (st.map kcat).sum ≤ 8) (k : ∀ x τ, Q' (some (kj x)) τ → K n L (kj x :: st) τ) : K pc L (b1 :: st) σ := ks_stat S [b1] hd hn hm hy rfl h hroom hc (fun r τ ht q => by obtain ⟨x, rfl⟩ : ∃ x, r = some (kj x) := ht; exact k x τ q)
theorem ks_s2i {b1 b2 : KV} (S : Sem l cc own ret fr lo Q K) (hd : decode cc pc = .ok (.invokestatic idx, 3)) (hn : pc + 3 = n) (hm : Cond.methodLink own idx y ∈ kq_tb) (hy : kq_YS y bytes maxL (some .int) 2) (h : Ev l y bytes maxL (some .int) fr' lo' [b1, b2] σ Q') (hroom : fr' + 1 ≤ fr ∧ 8 + (maxL + 11) + lo' ≤ lo) (hc : (st.map kcat).sum ≤ 8) (k : ∀ x τ, Q' (some (ki x)) τ → K n L (ki x :: st) τ) : K pc L (b2 :: b1 :: st) σ := ks_stat S [b1, b2] hd hn hm hy rfl h hroom hc (fun r τ ht q => by obtain ⟨x, rfl⟩ : ∃ x, r = some (ki x) := ht; exact k x τ q)
theorem ks_s2z {b1 b2 : KV} (S : Sem l cc own ret fr lo Q K) (hd : decode cc pc = .ok (.invokestatic idx, 3)) (hn : pc + 3 = n) (hm : Cond.methodLink own idx y ∈ kq_tb) (hy : kq_YS y bytes maxL (some .boolean) 2) (h : Ev l y bytes maxL (some .boolean) fr' lo' [b1, b2] σ Q') (hroom : fr' + 1 ≤ fr ∧ 8 + (maxL + 11) + lo' ≤ lo) (hc : (st.map kcat).sum ≤ 8) (k : ∀ x τ, Q' (some (ki x)) τ → K n L (ki x :: st) τ) : K pc L (b2 :: b1 :: st) σ := ks_stat S [b1, b2] hd hn hm hy rfl h hroom hc (fun r τ ht q => by obtain ⟨x, rfl⟩ : ∃ x, r = some (ki x) := ht; exact k x τ q)
theorem ks_s2v {b1 b2 : KV} (S : Sem l cc own ret fr lo Q K) (hd : decode cc pc = .ok (.invokestatic idx, 3)) (hn : pc + 3 = n) (hm : Cond.methodLink own idx y ∈ kq_tb) (hy : kq_YS y bytes maxL none 2) (h : Ev l y bytes maxL none fr' lo' [b1, b2] σ Q') (hroom : fr' + 1 ≤ fr ∧ 8 + (maxL + 11) + lo' ≤ lo) (hc : (st.map kcat).sum ≤ 8) (k : ∀ τ, Q' none τ → K n L st τ) : K pc L (b2 :: b1 :: st) σ := ks_stat S [b1, b2] hd hn hm hy rfl h hroom hc (fun r τ ht q => by obtain rfl : r = none := ht; exact k τ q)
theorem ks_s2j {b1 b2 : KV} (S : Sem l cc own ret fr lo Q K) (hd : decode cc pc = .ok (.invokestatic idx, 3)) (hn : pc + 3 = n) (hm : Cond.methodLink own idx y ∈ kq_tb) (hy : kq_YS y bytes maxL (some .long) 2) (h : Ev l y bytes maxL (some .long) fr' lo' [b1, b2] σ Q') (hroom : fr' + 1 ≤ fr ∧ 8 + (maxL + 11) + lo' ≤ lo) (hc : (st.map kcat).sum ≤ 8) (k : ∀ x τ, Q' (some (kj x)) τ → K n L (kj x :: st) τ) : K pc L (b2 :: b1 :: st) σ := ks_stat S [b1, b2] hd hn hm hy rfl h hroom hc (fun r τ ht q => by obtain ⟨x, rfl⟩ : ∃ x, r = some (kj x) := ht; exact k x τ q)
theorem ks_s3i {b1 b2 b3 : KV} (S : Sem l cc own ret fr lo Q K) (hd : decode cc pc = .ok (.invokestatic idx, 3)) (hn : pc + 3 = n) (hm : Cond.methodLink own idx y ∈ kq_tb) (hy : kq_YS y bytes maxL (some .int) 3) (h : Ev l y bytes maxL (some .int) fr' lo' [b1, b2, b3] σ Q') (hroom : fr' + 1 ≤ fr ∧ 8 + (maxL + 11) + lo' ≤ lo) (hc : (st.map kcat).sum ≤ 8) (k : ∀ x τ, Q' (some (ki x)) τ → K n L (ki x :: st) τ) : K pc L (b3 :: b2 :: b1 :: st) σ := ks_stat S [b1, b2, b3] hd hn hm hy rfl h hroom hc (fun r τ ht q => by obtain ⟨x, rfl⟩ : ∃ x, r = some (ki x) := ht; exact k x τ q)
theorem ks_s3z {b1 b2 b3 : KV} (S : Sem l cc own ret fr lo Q K) (hd : decode cc pc = .ok (.invokestatic idx, 3)) (hn : pc + 3 = n) (hm : Cond.methodLink own idx y ∈ kq_tb) (hy : kq_YS y bytes maxL (some .boolean) 3) (h : Ev l y bytes maxL (some .boolean) fr' lo' [b1, b2, b3] σ Q') (hroom : fr' + 1 ≤ fr ∧ 8 + (maxL + 11) + lo' ≤ lo) (hc : (st.map kcat).sum ≤ 8) (k : ∀ x τ, Q' (some (ki x)) τ → K n L (ki x :: st) τ) : K pc L (b3 :: b2 :: b1 :: st) σ := ks_stat S [b1, b2, b3] hd hn hm hy rfl h hroom hc (fun r τ ht q => by obtain ⟨x, rfl⟩ : ∃ x, r = some (ki x) := ht; exact k x τ q)
theorem ks_s3v {b1 b2 b3 : KV} (S : Sem l cc own ret fr lo Q K) (hd : decode cc pc = .ok (.invokestatic idx, 3)) (hn : pc + 3 = n) (hm : Cond.methodLink own idx y ∈ kq_tb) (hy : kq_YS y bytes maxL none 3) (h : Ev l y bytes maxL none fr' lo' [b1, b2, b3] σ Q') (hroom : fr' + 1 ≤ fr ∧ 8 + (maxL + 11) + lo' ≤ lo) (hc : (st.map kcat).sum ≤ 8) (k : ∀ τ, Q' none τ → K n L st τ) : K pc L (b3 :: b2 :: b1 :: st) σ := ks_stat S [b1, b2, b3] hd hn hm hy rfl h hroom hc (fun r τ ht q => by obtain rfl : r = none := ht; exact k τ q)
theorem ks_s3j {b1 b2 b3 : KV} (S : Sem l cc own ret fr lo Q K) (hd : decode cc pc = .ok (.invokestatic idx, 3)) (hn : pc + 3 = n) (hm : Cond.methodLink own idx y ∈ kq_tb) (hy : kq_YS y bytes maxL (some .long) 3) (h : Ev l y bytes maxL (some .long) fr' lo' [b1, b2, b3] σ Q') (hroom : fr' + 1 ≤ fr ∧ 8 + (maxL + 11) + lo' ≤ lo) (hc : (st.map kcat).sum ≤ 8) (k : ∀ x τ, Q' (some (kj x)) τ → K n L (kj x :: st) τ) : K pc L (b3 :: b2 :: b1 :: st) σ := ks_stat S [b1, b2, b3] hd hn hm hy rfl h hroom hc (fun r τ ht q => by obtain ⟨x, rfl⟩ : ∃ x, r = some (kj x) := ht; exact k x τ q)
theorem ks_s4i {b1 b2 b3 b4 : KV} (S : Sem l cc own ret fr lo Q K) (hd : decode cc pc = .ok (.invokestatic idx, 3)) (hn : pc + 3 = n) (hm : Cond.methodLink own idx y ∈ kq_tb) (hy : kq_YS y bytes maxL (some .int) 4) (h : Ev l y bytes maxL (some .int) fr' lo' [b1, b2, b3, b4] σ Q') (hroom : fr' + 1 ≤ fr ∧ 8 + (maxL + 11) + lo' ≤ lo) (hc : (st.map kcat).sum ≤ 8) (k : ∀ x τ, Q' (some (ki x)) τ → K n L (ki x :: st) τ) : K pc L (b4 :: b3 :: b2 :: b1 :: st) σ := ks_stat S [b1, b2, b3, b4] hd hn hm hy rfl h hroom hc (fun r τ ht q => by obtain ⟨x, rfl⟩ : ∃ x, r = some (ki x) := ht; exact k x τ q)
theorem ks_s4z {b1 b2 b3 b4 : KV} (S : Sem l cc own ret fr lo Q K) (hd : decode cc pc = .ok (.invokestatic idx, 3)) (hn : pc + 3 = n) (hm : Cond.methodLink own idx y ∈ kq_tb) (hy : kq_YS y bytes maxL (some .boolean) 4) (h : Ev l y bytes maxL (some .boolean) fr' lo' [b1, b2, b3, b4] σ Q') (hroom : fr' + 1 ≤ fr ∧ 8 + (maxL + 11) + lo' ≤ lo) (hc : (st.map kcat).sum ≤ 8) (k : ∀ x τ, Q' (some (ki x)) τ → K n L (ki x :: st) τ) : K pc L (b4 :: b3 :: b2 :: b1 :: st) σ := ks_stat S [b1, b2, b3, b4] hd hn hm hy rfl h hroom hc (fun r τ ht q => by obtain ⟨x, rfl⟩ : ∃ x, r = some (ki x) := ht; exact k x τ q)
theorem ks_s4v {b1 b2 b3 b4 : KV} (S : Sem l cc own ret fr lo Q K) (hd : decode cc pc = .ok (.invokestatic idx, 3)) (hn : pc + 3 = n) (hm : Cond.methodLink own idx y ∈ kq_tb) (hy : kq_YS y bytes maxL none 4) (h : Ev l y bytes maxL none fr' lo' [b1, b2, b3, b4] σ Q') (hroom : fr' + 1 ≤ fr ∧ 8 + (maxL + 11) + lo' ≤ lo) (hc : (st.map kcat).sum ≤ 8) (k : ∀ τ, Q' none τ → K n L st τ) : K pc L (b4 :: b3 :: b2 :: b1 :: st) σ := ks_stat S [b1, b2, b3, b4] hd hn hm hy rfl h hroom hc (fun r τ ht q => by obtain rfl : r = none := ht; exact k τ q)
theorem ks_s4j {b1 b2 b3 b4 : KV} (S : Sem l cc own ret fr lo Q K) (hd : decode cc pc = .ok (.invokestatic idx, 3)) (hn : pc + 3 = n) (hm : Cond.methodLink own idx y ∈ kq_tb) (hy : kq_YS y bytes maxL (some .long) 4) (h : Ev l y bytes maxL (some .long) fr' lo' [b1, b2, b3, b4] σ Q') (hroom : fr' + 1 ≤ fr ∧ 8 + (maxL + 11) + lo' ≤ lo) (hc : (st.map kcat).sum ≤ 8) (k : ∀ x τ, Q' (some (kj x)) τ → K n L (kj x :: st) τ) : K pc L (b4 :: b3 :: b2 :: b1 :: st) σ := ks_stat S [b1, b2, b3, b4] hd hn hm hy rfl h hroom hc (fun r τ ht q => by obtain ⟨x, rfl⟩ : ∃ x, r = some (kj x) := ht; exact k x τ q)
end KARITY
