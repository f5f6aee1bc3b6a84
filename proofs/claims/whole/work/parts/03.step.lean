/-! locals -/
def kl_ok (ad : Nat → Nat) (ls : Array Slot) (L : KL) : Prop := ls.size = L.length ∧ lv_wf ls ∧ ∀ (i : Nat) (v : KV), L[i]? = some (some v) → ls[i]? = some (Slot.val (vv ad v))
def kl_lv (ad : Nat → Nat) (L : KL) : List (Nat × Value) := (List.range L.length).filterMap (fun i => match L[i]? with
  | some (some v) => some (i, vv ad v)
  | _ => none)
theorem kl_lv_mem {ad : Nat → Nat} {L : KL} {i : Nat} {w : Value} : (i, w) ∈ kl_lv ad L ↔ ∃ v, L[i]? = some (some v) ∧ w = vv ad v := by
  unfold kl_lv
  rw [List.mem_filterMap]
  constructor
  · rintro ⟨j, hj, h⟩
    cases h1 : L[j]? with
    | none => rw [h1] at h; simp at h
    | some o =>
      cases o with
      | none => rw [h1] at h; simp at h
      | some v => rw [h1] at h; simp at h; exact ⟨v, by rw [← h.1]; exact h1, h.2.symm⟩
  · rintro ⟨v, h1, h2⟩
    refine ⟨i, ?_, ?_⟩
    · rw [List.mem_range]; exact (List.getElem?_eq_some_iff.mp h1).1
    · rw [h1, h2]
theorem kl_has {ad : Nat → Nat} {ls : Array Slot} {L : KL} (h : kl_ok ad ls L) : lv_has ls L.length (kl_lv ad L) := by
  refine ⟨h.1, h.2.1, fun q hq => ?_⟩
  obtain ⟨v, h1, h2⟩ := kl_lv_mem.mp (show (q.1, q.2) ∈ kl_lv ad L from hq)
  rw [h2]; exact h.2.2 q.1 v h1
/-- behind a store at i: a long ahead of it is gone -/
def kl_kill (L : KL) (i : Nat) : KL := match i with
  | 0 => L
  | j + 1 => match L[j]? with
    | some (some (.inr (.inl _))) => L.set j none
    | _ => L
def kl_st (L : KL) (i : Nat) (v : KV) : KL := (kl_kill L i).set i (some v)
def kl_stJ (L : KL) (i : Nat) (v : KV) : KL := ((kl_kill L i).set i (some v)).set (i + 1) none
theorem kl_kill_len (L : KL) (i : Nat) : (kl_kill L i).length = L.length := by
  unfold kl_kill
  split
  · rfl
  · split <;> simp
theorem kl_kill_at {L : KL} {i j : Nat} {v : KV} (h : (kl_kill L i)[j]? = some (some v)) : L[j]? = some (some v) ∧ ¬ (j + 1 = i ∧ kcat v = 2) := by
  unfold kl_kill at h
  split at h
  · exact ⟨h, fun e => by omega⟩
  · rename_i k
    split at h
    · rename_i y hy
      rw [List.getElem?_set] at h
      split at h
      · split at h <;> simp at h
      · exact ⟨h, fun e => by omega⟩
    · rename_i hy
      refine ⟨h, fun e => ?_⟩
      have e1 : j = k := by omega
      subst e1
      rcases v with x | x | x
      · simp [kcat] at e
      · exact hy x h
      · simp [kcat] at e
theorem kl_st_ok {ad : Nat → Nat} {ls : Array Slot} {L : KL} {i : Nat} {v : KV} {lv' : List (Nat × Value)} (hl : lv_has ls L.length lv') (he : (i, vv ad v) :: (kl_lv ad L).filter (fun q => !(q.1 == i) && !(q.1 + 1 == i && q.2.category == 2)) = lv') : kl_ok ad ls (kl_st L i v) := by
  refine ⟨by rw [hl.1]; simp [kl_st, kl_kill_len], hl.2.1, fun j w hj => ?_⟩
  refine hl.2.2 (j, vv ad w) ?_
  rw [← he]
  unfold kl_st at hj
  rw [List.getElem?_set] at hj
  split at hj
  · rename_i hij
    split at hj
    · have : v = w := by simpa using hj
      rw [this, hij]; exact List.mem_cons_self
    · simp at hj
  · rename_i hij
    obtain ⟨h1, h2⟩ := kl_kill_at hj
    refine List.mem_cons_of_mem _ (List.mem_filter.mpr ⟨kl_lv_mem.mpr ⟨w, h1, rfl⟩, ?_⟩)
    have e1 : (j == i) = false := by simp; exact fun e => hij e.symm
    have e2 : (j + 1 == i && (vv ad w).category == 2) = false := by
      rw [vv_cat]
      cases h5 : (j + 1 == i && kcat w == 2) with
      | false => rfl
      | true => simp at h5; exact absurd h5 h2
    simp only [e1, e2]; rfl
theorem kl_stJ_ok {ad : Nat → Nat} {ls : Array Slot} {L : KL} {i : Nat} {v : KV} {lv' : List (Nat × Value)} (hl : lv_has ls L.length lv') (he : (i, vv ad v) :: (kl_lv ad L).filter (fun q => !(q.1 == i) && (!(q.1 == i + 1) && !(q.1 + 1 == i && q.2.category == 2))) = lv') : kl_ok ad ls (kl_stJ L i v) := by
  refine ⟨by rw [hl.1]; simp [kl_stJ, kl_kill_len], hl.2.1, fun j w hj => ?_⟩
  refine hl.2.2 (j, vv ad w) ?_
  rw [← he]
  unfold kl_stJ at hj
  rw [List.getElem?_set] at hj
  split at hj
  · split at hj <;> simp at hj
  rename_i hij1
  rw [List.getElem?_set] at hj
  split at hj
  · rename_i hij
    split at hj
    · have : v = w := by simpa using hj
      rw [this, hij]; exact List.mem_cons_self
    · simp at hj
  · rename_i hij
    obtain ⟨h1, h2⟩ := kl_kill_at hj
    refine List.mem_cons_of_mem _ (List.mem_filter.mpr ⟨kl_lv_mem.mpr ⟨w, h1, rfl⟩, ?_⟩)
    have e1 : (j == i) = false := by simp; exact fun e => hij e.symm
    have e3 : (j == i + 1) = false := by simp; exact fun e => hij1 e.symm
    have e2 : (j + 1 == i && (vv ad w).category == 2) = false := by
      rw [vv_cat]
      cases h5 : (j + 1 == i && kcat w == 2) with
      | false => rfl
      | true => simp at h5; exact absurd h5 h2
    simp only [e1, e2, e3]; rfl
theorem kl_st_v {L : KL} {i : Nat} {v : KV} (hL : ∀ (i : Nat) (v : KV), L[i]? = some (some v) → vok v) (hv : vok v) : ∀ (j : Nat) (w : KV), (kl_st L i v)[j]? = some (some w) → vok w := by
  intro j w hj
  unfold kl_st at hj
  rw [List.getElem?_set] at hj
  split at hj
  · split at hj
    · have : v = w := by simpa using hj
      rw [← this]; exact hv
    · simp at hj
  · exact hL j w (kl_kill_at hj).1
theorem kl_stJ_v {L : KL} {i : Nat} {v : KV} (hL : ∀ (i : Nat) (v : KV), L[i]? = some (some v) → vok v) (hv : vok v) : ∀ (j : Nat) (w : KV), (kl_stJ L i v)[j]? = some (some w) → vok w := by
  intro j w hj
  unfold kl_stJ at hj
  rw [List.getElem?_set] at hj
  split at hj
  · split at hj <;> simp at hj
  · exact kl_st_v hL hv j w hj
/-! the walk -/
def kq_ty (ret : Option FieldType) (r : Option KV) : Prop := match ret with
  | none => r = none
  | some .int => ∃ x, r = some (ki x)
  | some .boolean => ∃ x, r = some (ki x)
  | some .long => ∃ x, r = some (kj x)
  | _ => False
def kq_ret (cc : ByteArray) (pc : Nat) (ret : Option FieldType) (r : Option KV) : Prop := match r with
  | none => decode cc pc = .ok (.return_, 1) ∧ ret = none
  | some (.inl x) => decode cc pc = .ok (.ireturn, 1) ∧ (ret = some .int ∨ (ret = some .boolean ∧ (x = 0 ∨ x = 1)))
  | some (.inr (.inl _)) => decode cc pc = .ok (.lreturn, 1) ∧ ret = some .long
  | _ => False
/-- what a walk rests on -/
def KX (l : Launch) (p : Program) (e : Env) (R : Room) (s : State) (m : MethodId) (args : Array Value) (below : List Frame) (meth : Method) (c : Code) (ad : Nat → Nat) (cA : ClassId) (D : va_G) (A : Nat → Prop) (H0 : Heap) (cells slots : Nat) (Qf : State → Prop) : Nat → KL → List KV → KS → Prop :=
  fun pc L st σ => (∀ v ∈ st, vok v) → (∀ (i : Nat) (v : KV), L[i]? = some (some v) → vok v) → (∀ c i, iv (σ c i)) → ∀ (H : Heap) (locs : List Loc) (ls : Array Slot), va_P D vwCl (kq_w ad cA σ) H → va_S A H0 H locs → kl_ok ad ls L → L.length = c.maxLocals → W p l e R s m args below meth c H locs cells slots Qf (F0 m pc ls (st.map (vv ad)))
def Sem (l : Launch) (cc : ByteArray) (own : String) (ret : Option FieldType) (fr lo : Nat) (Q : Option KV → KS → Prop) (K : Nat → KL → List KV → KS → Prop) : Prop :=
  ∃ (p : Program) (e : Env) (R : Room) (s : State) (m : MethodId) (args : Array Value) (below : List Frame) (meth : Method) (c : Code) (ad : Nat → Nat) (cA : ClassId) (D : va_G) (A : Nat → Prop) (H0 : Heap) (cells slots : Nat) (Qf : State → Prop),
    p.tables.exec = Jvm.exec ∧ c.code = cc ∧ s.vm.findClass own = some m.cls ∧ (∀ w ∈ kq_tb, w.before args s = true) ∧ (R.frames = fr ∧ R.locals = lo ∧ cells ≤ R.cells ∧ slots ≤ R.slots) ∧ va_K D vwCl [(cA, .int)] s ∧ kq_N s ∧ kq_inj ad ∧ (∀ c, c < 48 → A (ad c)) ∧
    (∀ (r : Option KV) (τ : KS) (pc : Nat) (H : Heap) (locs : List Loc) (ls : Array Slot), kq_ret cc pc ret r → Q r τ → (∀ v, r = some v → vok v) → (∀ c i, iv (τ c i)) → va_P D vwCl (kq_w ad cA τ) H → va_S A H0 H locs → W p l e R s m args below meth c H locs cells slots Qf (F0 m pc ls (r.map (vv ad)).toList)) ∧
    K = KX l p e R s m args below meth c ad cA D A H0 cells slots Qf
/-- a method's contract: called with 'as' in σ it returns, and what it answers and leaves is as Q says -/
def Ev (l : Launch) (y : MethodName) (bytes : ByteArray) (maxL : Nat) (ret : Option FieldType) (fr lo : Nat) (as : List KV) (σ : KS) (Q : Option KV → KS → Prop) : Prop :=
  (∀ v ∈ as, vok v) → (∀ c i, iv (σ c i)) → ∀ (ad : Nat → Nat) (cA : ClassId) (D : va_G), kq_inj ad →
    Met l y (Cond.code y bytes maxL ret :: kq_tb) ({ frames := fr, cells := 0, slots := 0, locals := lo }) (va_Pc (as.map (vv ad)) (fun U => va_P D vwCl (kq_w ad cA σ) U.heap ∧ va_K D vwCl [(cA, .int)] U ∧ kq_N U))
      (fun _ st o t => ∃ (r : Option KV) (τ : KS), o = .returned (r.map (vv ad)) ∧ kq_ty ret r ∧ Q r τ ∧ (∀ v, r = some v → vok v) ∧ (∀ c i, iv (τ c i)) ∧ va_P D vwCl (kq_w ad cA τ) t.heap ∧ va_F (kq_A ad) st t) 0 0 (kq_A ad)

theorem kn_j0 {y : Int} (h : jv y) (h0 : 0 < y) : ¬ Int64.ofInt y = 0 := by
  intro h1
  have h2 : (Int64.ofInt y).toInt = (0 : Int64).toInt := by rw [h1]
  rw [kn_j h] at h2
  have h3 : (0 : Int64).toInt = 0 := by decide
  omega
section KSTEP
variable {l : Launch} {cc : ByteArray} {own : String} {ret : Option FieldType} {fr lo : Nat} {Q : Option KV → KS → Prop} {K : Nat → KL → List KV → KS → Prop} {pc n : Nat} {L : KL} {st : List KV} {σ : KS}
theorem ks_iconst (S : Sem l cc own ret fr lo Q K) {x : Int} (hd : decode cc pc = .ok (.iconst x, 1)) (hn : pc + 1 = n) (hv : iv x := by decide) (k : K n L (ki x :: st) σ) : K pc L st σ := by
  obtain ⟨p, e, R, s, m, args, below, meth, c, ad, cA, D, A, H0, cells, slots, Qf, hx, hb, hown, hts, hR, hK, hN, hi, hA, hret, rfl⟩ := S
  subst hn
  intro hst hL hσ H locs ls hP hS hl hlen
  refine lv_iconst hx hb hd rfl ?_
  exact k (List.forall_mem_cons.mpr ⟨hv, hst⟩) hL hσ H locs ls hP hS hl hlen
theorem ks_bipush (S : Sem l cc own ret fr lo Q K) {x : Int} (hd : decode cc pc = .ok (.bipush x, 2)) (hn : pc + 2 = n) (hv : iv x ∧ (Int8.ofInt x).toInt32 = Int32.ofInt x := by decide) (k : K n L (ki x :: st) σ) : K pc L st σ := by
  obtain ⟨p, e, R, s, m, args, below, meth, c, ad, cA, D, A, H0, cells, slots, Qf, hx, hb, hown, hts, hR, hK, hN, hi, hA, hret, rfl⟩ := S
  subst hn
  intro hst hL hσ H locs ls hP hS hl hlen
  refine lv_bipush hx hb hd hv.2 ?_
  exact k (List.forall_mem_cons.mpr ⟨hv.1, hst⟩) hL hσ H locs ls hP hS hl hlen
theorem ks_sipush (S : Sem l cc own ret fr lo Q K) {x : Int} (hd : decode cc pc = .ok (.sipush x, 3)) (hn : pc + 3 = n) (hv : iv x ∧ (Int16.ofInt x).toInt32 = Int32.ofInt x := by decide) (k : K n L (ki x :: st) σ) : K pc L st σ := by
  obtain ⟨p, e, R, s, m, args, below, meth, c, ad, cA, D, A, H0, cells, slots, Qf, hx, hb, hown, hts, hR, hK, hN, hi, hA, hret, rfl⟩ := S
  subst hn
  intro hst hL hσ H locs ls hP hS hl hlen
  refine lv_sipush hx hb hd hv.2 ?_
  exact k (List.forall_mem_cons.mpr ⟨hv.1, hst⟩) hL hσ H locs ls hP hS hl hlen
theorem ks_lconst (S : Sem l cc own ret fr lo Q K) {x : Fin 2} {y : Int} (hd : decode cc pc = .ok (.lconst x, 1)) (hn : pc + 1 = n) (hv : jv y ∧ Int64.ofNat (x : Nat) = Int64.ofInt y := by decide) (k : K n L (kj y :: st) σ) : K pc L st σ := by
  obtain ⟨p, e, R, s, m, args, below, meth, c, ad, cA, D, A, H0, cells, slots, Qf, hx, hb, hown, hts, hR, hK, hN, hi, hA, hret, rfl⟩ := S
  subst hn
  intro hst hL hσ H locs ls hP hS hl hlen
  refine lv_lconst hx hb hd hv.2 ?_
  exact k (List.forall_mem_cons.mpr ⟨hv.1, hst⟩) hL hσ H locs ls hP hS hl hlen
theorem ks_ldc (S : Sem l cc own ret fr lo Q K) {idx : Nat} {x : Int} {w : Int32} (hd : decode cc pc = .ok (.ldc idx, 2)) (hn : pc + 2 = n) (hc : Cond.constant own idx w ∈ kq_tb) (hv : iv x ∧ w = Int32.ofInt x := by decide) (k : K n L (ki x :: st) σ) : K pc L st σ := by
  obtain ⟨p, e, R, s, m, args, below, meth, c, ad, cA, D, A, H0, cells, slots, Qf, hx, hb, hown, hts, hR, hK, hN, hi, hA, hret, rfl⟩ := S
  subst hn
  intro hst hL hσ H locs ls hP hS hl hlen
  obtain ⟨hv, rfl⟩ := hv
  refine lv_ldc hx hb hown (hts _ hc) hd ?_
  exact k (List.forall_mem_cons.mpr ⟨hv, hst⟩) hL hσ H locs ls hP hS hl hlen
theorem ks_ldcw (S : Sem l cc own ret fr lo Q K) {idx : Nat} {x : Int} {w : Int32} (hd : decode cc pc = .ok (.ldc_w idx, 3)) (hn : pc + 3 = n) (hc : Cond.constant own idx w ∈ kq_tb) (hv : iv x ∧ w = Int32.ofInt x := by decide) (k : K n L (ki x :: st) σ) : K pc L st σ := by
  obtain ⟨p, e, R, s, m, args, below, meth, c, ad, cA, D, A, H0, cells, slots, Qf, hx, hb, hown, hts, hR, hK, hN, hi, hA, hret, rfl⟩ := S
  subst hn
  intro hst hL hσ H locs ls hP hS hl hlen
  obtain ⟨hv, rfl⟩ := hv
  refine lv_ldcw hx hb hown (hts _ hc) hd ?_
  exact k (List.forall_mem_cons.mpr ⟨hv, hst⟩) hL hσ H locs ls hP hS hl hlen
theorem ks_ldc2 (S : Sem l cc own ret fr lo Q K) {idx : Nat} {x : Int} {w : Int64} (hd : decode cc pc = .ok (.ldc2_w idx, 3)) (hn : pc + 3 = n) (hc : Cond.constantLong own idx w ∈ kq_tb) (hv : jv x ∧ w = Int64.ofInt x := by decide) (k : K n L (kj x :: st) σ) : K pc L st σ := by
  obtain ⟨p, e, R, s, m, args, below, meth, c, ad, cA, D, A, H0, cells, slots, Qf, hx, hb, hown, hts, hR, hK, hN, hi, hA, hret, rfl⟩ := S
  subst hn
  intro hst hL hσ H locs ls hP hS hl hlen
  obtain ⟨hv, rfl⟩ := hv
  refine lv_ldc2 hx hb hown (hts _ hc) hd ?_
  exact k (List.forall_mem_cons.mpr ⟨hv, hst⟩) hL hσ H locs ls hP hS hl hlen
theorem ks_iload_n (S : Sem l cc own ret fr lo Q K) {i : Fin 4} {x : Int} (hd : decode cc pc = .ok (.iload_n i, 1)) (hn : pc + 1 = n) (h : L[(i : Nat)]? = some (some (ki x))) (k : K n L (ki x :: st) σ) : K pc L st σ := by
  obtain ⟨p, e, R, s, m, args, below, meth, c, ad, cA, D, A, H0, cells, slots, Qf, hx, hb, hown, hts, hR, hK, hN, hi, hA, hret, rfl⟩ := S
  subst hn
  intro hst hL hσ H locs ls hP hS hl hlen
  refine lv_iload_n hx hb hd rfl (hl.2.2 _ _ h) ?_
  exact k (List.forall_mem_cons.mpr ⟨hL _ _ h, hst⟩) hL hσ H locs ls hP hS hl hlen
theorem ks_iload (S : Sem l cc own ret fr lo Q K) {i : Nat} {x : Int} (hd : decode cc pc = .ok (.iload i, 2)) (hn : pc + 2 = n) (h : L[i]? = some (some (ki x))) (k : K n L (ki x :: st) σ) : K pc L st σ := by
  obtain ⟨p, e, R, s, m, args, below, meth, c, ad, cA, D, A, H0, cells, slots, Qf, hx, hb, hown, hts, hR, hK, hN, hi, hA, hret, rfl⟩ := S
  subst hn
  intro hst hL hσ H locs ls hP hS hl hlen
  refine lv_iload hx hb hd (hl.2.2 _ _ h) ?_
  exact k (List.forall_mem_cons.mpr ⟨hL _ _ h, hst⟩) hL hσ H locs ls hP hS hl hlen
theorem ks_lload_n (S : Sem l cc own ret fr lo Q K) {i : Fin 4} {x : Int} (hd : decode cc pc = .ok (.lload_n i, 1)) (hn : pc + 1 = n) (h : L[(i : Nat)]? = some (some (kj x))) (k : K n L (kj x :: st) σ) : K pc L st σ := by
  obtain ⟨p, e, R, s, m, args, below, meth, c, ad, cA, D, A, H0, cells, slots, Qf, hx, hb, hown, hts, hR, hK, hN, hi, hA, hret, rfl⟩ := S
  subst hn
  intro hst hL hσ H locs ls hP hS hl hlen
  refine lv_lload_n hx hb hd rfl (hl.2.2 _ _ h) ?_
  exact k (List.forall_mem_cons.mpr ⟨hL _ _ h, hst⟩) hL hσ H locs ls hP hS hl hlen
theorem ks_lload (S : Sem l cc own ret fr lo Q K) {i : Nat} {x : Int} (hd : decode cc pc = .ok (.lload i, 2)) (hn : pc + 2 = n) (h : L[i]? = some (some (kj x))) (k : K n L (kj x :: st) σ) : K pc L st σ := by
  obtain ⟨p, e, R, s, m, args, below, meth, c, ad, cA, D, A, H0, cells, slots, Qf, hx, hb, hown, hts, hR, hK, hN, hi, hA, hret, rfl⟩ := S
  subst hn
  intro hst hL hσ H locs ls hP hS hl hlen
  refine lv_lload hx hb hd (hl.2.2 _ _ h) ?_
  exact k (List.forall_mem_cons.mpr ⟨hL _ _ h, hst⟩) hL hσ H locs ls hP hS hl hlen
theorem ks_aload_n (S : Sem l cc own ret fr lo Q K) {i : Fin 4} {x : Nat} (hd : decode cc pc = .ok (.aload_n i, 1)) (hn : pc + 1 = n) (h : L[(i : Nat)]? = some (some (kr x))) (k : K n L (kr x :: st) σ) : K pc L st σ := by
  obtain ⟨p, e, R, s, m, args, below, meth, c, ad, cA, D, A, H0, cells, slots, Qf, hx, hb, hown, hts, hR, hK, hN, hi, hA, hret, rfl⟩ := S
  subst hn
  intro hst hL hσ H locs ls hP hS hl hlen
  refine lv_aload_n hx hb hd rfl (hl.2.2 _ _ h) ?_
  exact k (List.forall_mem_cons.mpr ⟨hL _ _ h, hst⟩) hL hσ H locs ls hP hS hl hlen
theorem ks_aload (S : Sem l cc own ret fr lo Q K) {i : Nat} {x : Nat} (hd : decode cc pc = .ok (.aload i, 2)) (hn : pc + 2 = n) (h : L[i]? = some (some (kr x))) (k : K n L (kr x :: st) σ) : K pc L st σ := by
  obtain ⟨p, e, R, s, m, args, below, meth, c, ad, cA, D, A, H0, cells, slots, Qf, hx, hb, hown, hts, hR, hK, hN, hi, hA, hret, rfl⟩ := S
  subst hn
  intro hst hL hσ H locs ls hP hS hl hlen
  refine lv_aload hx hb hd (hl.2.2 _ _ h) ?_
  exact k (List.forall_mem_cons.mpr ⟨hL _ _ h, hst⟩) hL hσ H locs ls hP hS hl hlen
theorem ks_istore_n (S : Sem l cc own ret fr lo Q K) {j : Fin 4} {i : Nat} {x : Int} {L' : Int → KL} (hd : decode cc pc = .ok (.istore_n j, 1)) (hn : pc + 1 = n) (hj : (j : Nat) = i) (hi : i < L.length) (hL' : ∀ y, kl_st L i (ki y) = L' y) (k : ∀ y, y = x → K n (L' y) st σ) : K pc L (ki x :: st) σ := by
  obtain ⟨p, e, R, s, m, args, below, meth, c, ad, cA, D, A, H0, cells, slots, Qf, hx, hb, hown, hts, hR, hK, hN, hinj, hA, hret, rfl⟩ := S
  subst hn
  intro hst hL hσ H locs ls hP hS hl hlen
  simp only [List.forall_mem_cons] at hst
  obtain ⟨h1, hst⟩ := hst
  refine lv_istore_n hx hb hd hj (kl_has hl) hi rfl (fun ls1 hl1 => ?_)
  have hk := k x rfl
  rw [← hL' x] at hk
  exact hk hst (kl_st_v hL h1) hσ H locs ls1 hP hS (kl_st_ok (v := ki x) hl1 rfl) (by simp [kl_st, kl_kill_len, hlen])
theorem ks_istore (S : Sem l cc own ret fr lo Q K) {i : Nat} {x : Int} {L' : Int → KL} (hd : decode cc pc = .ok (.istore i, 2)) (hn : pc + 2 = n)  (hi : i < L.length) (hL' : ∀ y, kl_st L i (ki y) = L' y) (k : ∀ y, y = x → K n (L' y) st σ) : K pc L (ki x :: st) σ := by
  obtain ⟨p, e, R, s, m, args, below, meth, c, ad, cA, D, A, H0, cells, slots, Qf, hx, hb, hown, hts, hR, hK, hN, hinj, hA, hret, rfl⟩ := S
  subst hn
  intro hst hL hσ H locs ls hP hS hl hlen
  simp only [List.forall_mem_cons] at hst
  obtain ⟨h1, hst⟩ := hst
  refine lv_istore hx hb hd (kl_has hl) hi rfl (fun ls1 hl1 => ?_)
  have hk := k x rfl
  rw [← hL' x] at hk
  exact hk hst (kl_st_v hL h1) hσ H locs ls1 hP hS (kl_st_ok (v := ki x) hl1 rfl) (by simp [kl_st, kl_kill_len, hlen])
theorem ks_lstore_n (S : Sem l cc own ret fr lo Q K) {j : Fin 4} {i : Nat} {x : Int} {L' : Int → KL} (hd : decode cc pc = .ok (.lstore_n j, 1)) (hn : pc + 1 = n) (hj : (j : Nat) = i) (hi : i + 1 < L.length) (hL' : ∀ y, kl_stJ L i (kj y) = L' y) (k : ∀ y, y = x → K n (L' y) st σ) : K pc L (kj x :: st) σ := by
  obtain ⟨p, e, R, s, m, args, below, meth, c, ad, cA, D, A, H0, cells, slots, Qf, hx, hb, hown, hts, hR, hK, hN, hinj, hA, hret, rfl⟩ := S
  subst hn
  intro hst hL hσ H locs ls hP hS hl hlen
  simp only [List.forall_mem_cons] at hst
  obtain ⟨h1, hst⟩ := hst
  refine lv_lstore_n hx hb hd hj (kl_has hl) hi rfl (fun ls1 hl1 => ?_)
  have hk := k x rfl
  rw [← hL' x] at hk
  exact hk hst (kl_stJ_v hL h1) hσ H locs ls1 hP hS (kl_stJ_ok (v := kj x) hl1 rfl) (by simp [kl_stJ, kl_kill_len, hlen])
theorem ks_lstore (S : Sem l cc own ret fr lo Q K) {i : Nat} {x : Int} {L' : Int → KL} (hd : decode cc pc = .ok (.lstore i, 2)) (hn : pc + 2 = n)  (hi : i + 1 < L.length) (hL' : ∀ y, kl_stJ L i (kj y) = L' y) (k : ∀ y, y = x → K n (L' y) st σ) : K pc L (kj x :: st) σ := by
  obtain ⟨p, e, R, s, m, args, below, meth, c, ad, cA, D, A, H0, cells, slots, Qf, hx, hb, hown, hts, hR, hK, hN, hinj, hA, hret, rfl⟩ := S
  subst hn
  intro hst hL hσ H locs ls hP hS hl hlen
  simp only [List.forall_mem_cons] at hst
  obtain ⟨h1, hst⟩ := hst
  refine lv_lstore hx hb hd (kl_has hl) hi rfl (fun ls1 hl1 => ?_)
  have hk := k x rfl
  rw [← hL' x] at hk
  exact hk hst (kl_stJ_v hL h1) hσ H locs ls1 hP hS (kl_stJ_ok (v := kj x) hl1 rfl) (by simp [kl_stJ, kl_kill_len, hlen])
theorem ks_astore_n (S : Sem l cc own ret fr lo Q K) {j : Fin 4} {i : Nat} {x : Nat} {L' : Nat → KL} (hd : decode cc pc = .ok (.astore_n j, 1)) (hn : pc + 1 = n) (hj : (j : Nat) = i) (hi : i < L.length) (hL' : ∀ y, kl_st L i (kr y) = L' y) (k : ∀ y, y = x → K n (L' y) st σ) : K pc L (kr x :: st) σ := by
  obtain ⟨p, e, R, s, m, args, below, meth, c, ad, cA, D, A, H0, cells, slots, Qf, hx, hb, hown, hts, hR, hK, hN, hinj, hA, hret, rfl⟩ := S
  subst hn
  intro hst hL hσ H locs ls hP hS hl hlen
  simp only [List.forall_mem_cons] at hst
  obtain ⟨h1, hst⟩ := hst
  refine lv_astore_n hx hb hd hj (kl_has hl) hi rfl (fun ls1 hl1 => ?_)
  have hk := k x rfl
  rw [← hL' x] at hk
  exact hk hst (kl_st_v hL h1) hσ H locs ls1 hP hS (kl_st_ok (v := kr x) hl1 rfl) (by simp [kl_st, kl_kill_len, hlen])
theorem ks_astore (S : Sem l cc own ret fr lo Q K) {i : Nat} {x : Nat} {L' : Nat → KL} (hd : decode cc pc = .ok (.astore i, 2)) (hn : pc + 2 = n)  (hi : i < L.length) (hL' : ∀ y, kl_st L i (kr y) = L' y) (k : ∀ y, y = x → K n (L' y) st σ) : K pc L (kr x :: st) σ := by
  obtain ⟨p, e, R, s, m, args, below, meth, c, ad, cA, D, A, H0, cells, slots, Qf, hx, hb, hown, hts, hR, hK, hN, hinj, hA, hret, rfl⟩ := S
  subst hn
  intro hst hL hσ H locs ls hP hS hl hlen
  simp only [List.forall_mem_cons] at hst
  obtain ⟨h1, hst⟩ := hst
  refine lv_astore hx hb hd (kl_has hl) hi rfl (fun ls1 hl1 => ?_)
  have hk := k x rfl
  rw [← hL' x] at hk
  exact hk hst (kl_st_v hL h1) hσ H locs ls1 hP hS (kl_st_ok (v := kr x) hl1 rfl) (by simp [kl_st, kl_kill_len, hlen])
theorem ks_iinc (S : Sem l cc own ret fr lo Q K) {i : Nat} {x d : Int} {L' : Int → KL} (hd : decode cc pc = .ok (.iinc i d, 3)) (hn : pc + 3 = n) (h : L[i]? = some (some (ki x))) (hv : -2147483648 ≤ x + d ∧ x + d ≤ 2147483647) (hL' : ∀ y, kl_st L i (ki y) = L' y) (k : ∀ y, y = x + d → K n (L' y) st σ) : K pc L st σ := by
  obtain ⟨p, e, R, s, m, args, below, meth, c, ad, cA, D, A, H0, cells, slots, Qf, hx, hb, hown, hts, hR, hK, hN, hinj, hA, hret, rfl⟩ := S
  subst hn
  intro hst hL hσ H locs ls hP hS hl hlen
  obtain ⟨q, hq⟩ := List.getElem?_of_mem (kl_lv_mem.mpr ⟨ki x, h, rfl⟩ : (i, vv ad (ki x)) ∈ kl_lv ad L)
  refine lv_iinc hx hb hd (kl_has hl) hq (kn_add x d) (List.getElem?_eq_some_iff.mp h).1 rfl (fun ls1 hl1 => ?_)
  have hk := k (x + d) rfl
  rw [← hL' (x + d)] at hk
  exact hk hst (kl_st_v hL (show iv (x + d) from hv)) hσ H locs ls1 hP hS (kl_st_ok (v := ki (x + d)) hl1 rfl) (by simp [kl_st, kl_kill_len, hlen])
theorem ks_iadd (S : Sem l cc own ret fr lo Q K) {x y : Int} (hd : decode cc pc = .ok (.iadd, 1)) (hn : pc + 1 = n) (hv : -2147483648 ≤ x + y ∧ x + y ≤ 2147483647) (k : K n L (ki (x + y) :: st) σ) : K pc L (ki y :: ki x :: st) σ := by
  obtain ⟨p, e, R, s, m, args, below, meth, c, ad, cA, D, A, H0, cells, slots, Qf, hx, hb, hown, hts, hR, hK, hN, hi, hA, hret, rfl⟩ := S
  subst hn
  intro hst hL hσ H locs ls hP hS hl hlen
  simp only [List.forall_mem_cons] at hst
  obtain ⟨h2, h1, hst⟩ := hst
  refine lv_iadd hx hb hd ?_
  rw [kn_add]
  exact k (List.forall_mem_cons.mpr ⟨(show iv _ from hv), hst⟩) hL hσ H locs ls hP hS hl hlen
theorem ks_iaddW (S : Sem l cc own ret fr lo Q K) {x y : Int} (hd : decode cc pc = .ok (.iadd, 1)) (hn : pc + 1 = n)  (k : K n L (ki (wr (x + y)) :: st) σ) : K pc L (ki y :: ki x :: st) σ := by
  obtain ⟨p, e, R, s, m, args, below, meth, c, ad, cA, D, A, H0, cells, slots, Qf, hx, hb, hown, hts, hR, hK, hN, hi, hA, hret, rfl⟩ := S
  subst hn
  intro hst hL hσ H locs ls hP hS hl hlen
  simp only [List.forall_mem_cons] at hst
  obtain ⟨h2, h1, hst⟩ := hst
  refine lv_iadd hx hb hd ?_
  rw [kn_add, ← kn_wr]
  exact k (List.forall_mem_cons.mpr ⟨wr_iv _, hst⟩) hL hσ H locs ls hP hS hl hlen
theorem ks_isub (S : Sem l cc own ret fr lo Q K) {x y : Int} (hd : decode cc pc = .ok (.isub, 1)) (hn : pc + 1 = n) (hv : -2147483648 ≤ x - y ∧ x - y ≤ 2147483647) (k : K n L (ki (x - y) :: st) σ) : K pc L (ki y :: ki x :: st) σ := by
  obtain ⟨p, e, R, s, m, args, below, meth, c, ad, cA, D, A, H0, cells, slots, Qf, hx, hb, hown, hts, hR, hK, hN, hi, hA, hret, rfl⟩ := S
  subst hn
  intro hst hL hσ H locs ls hP hS hl hlen
  simp only [List.forall_mem_cons] at hst
  obtain ⟨h2, h1, hst⟩ := hst
  refine lv_isub hx hb hd ?_
  rw [kn_sub]
  exact k (List.forall_mem_cons.mpr ⟨(show iv _ from hv), hst⟩) hL hσ H locs ls hP hS hl hlen
theorem ks_isubW (S : Sem l cc own ret fr lo Q K) {x y : Int} (hd : decode cc pc = .ok (.isub, 1)) (hn : pc + 1 = n)  (k : K n L (ki (wr (x - y)) :: st) σ) : K pc L (ki y :: ki x :: st) σ := by
  obtain ⟨p, e, R, s, m, args, below, meth, c, ad, cA, D, A, H0, cells, slots, Qf, hx, hb, hown, hts, hR, hK, hN, hi, hA, hret, rfl⟩ := S
  subst hn
  intro hst hL hσ H locs ls hP hS hl hlen
  simp only [List.forall_mem_cons] at hst
  obtain ⟨h2, h1, hst⟩ := hst
  refine lv_isub hx hb hd ?_
  rw [kn_sub, ← kn_wr]
  exact k (List.forall_mem_cons.mpr ⟨wr_iv _, hst⟩) hL hσ H locs ls hP hS hl hlen
theorem ks_imul (S : Sem l cc own ret fr lo Q K) {x y : Int} (hd : decode cc pc = .ok (.imul, 1)) (hn : pc + 1 = n) (hv : -2147483648 ≤ x * y ∧ x * y ≤ 2147483647) (k : K n L (ki (x * y) :: st) σ) : K pc L (ki y :: ki x :: st) σ := by
  obtain ⟨p, e, R, s, m, args, below, meth, c, ad, cA, D, A, H0, cells, slots, Qf, hx, hb, hown, hts, hR, hK, hN, hi, hA, hret, rfl⟩ := S
  subst hn
  intro hst hL hσ H locs ls hP hS hl hlen
  simp only [List.forall_mem_cons] at hst
  obtain ⟨h2, h1, hst⟩ := hst
  refine lv_imul hx hb hd ?_
  rw [kn_mul]
  exact k (List.forall_mem_cons.mpr ⟨(show iv _ from hv), hst⟩) hL hσ H locs ls hP hS hl hlen
theorem ks_imulW (S : Sem l cc own ret fr lo Q K) {x y : Int} (hd : decode cc pc = .ok (.imul, 1)) (hn : pc + 1 = n)  (k : K n L (ki (wr (x * y)) :: st) σ) : K pc L (ki y :: ki x :: st) σ := by
  obtain ⟨p, e, R, s, m, args, below, meth, c, ad, cA, D, A, H0, cells, slots, Qf, hx, hb, hown, hts, hR, hK, hN, hi, hA, hret, rfl⟩ := S
  subst hn
  intro hst hL hσ H locs ls hP hS hl hlen
  simp only [List.forall_mem_cons] at hst
  obtain ⟨h2, h1, hst⟩ := hst
  refine lv_imul hx hb hd ?_
  rw [kn_mul, ← kn_wr]
  exact k (List.forall_mem_cons.mpr ⟨wr_iv _, hst⟩) hL hσ H locs ls hP hS hl hlen
theorem ks_ladd (S : Sem l cc own ret fr lo Q K) {x y : Int} (hd : decode cc pc = .ok (.ladd, 1)) (hn : pc + 1 = n) (hv : -9223372036854775808 ≤ x + y ∧ x + y ≤ 9223372036854775807) (k : K n L (kj (x + y) :: st) σ) : K pc L (kj y :: kj x :: st) σ := by
  obtain ⟨p, e, R, s, m, args, below, meth, c, ad, cA, D, A, H0, cells, slots, Qf, hx, hb, hown, hts, hR, hK, hN, hi, hA, hret, rfl⟩ := S
  subst hn
  intro hst hL hσ H locs ls hP hS hl hlen
  simp only [List.forall_mem_cons] at hst
  obtain ⟨h2, h1, hst⟩ := hst
  refine lv_ladd hx hb hd ?_
  rw [kn_addJ]
  exact k (List.forall_mem_cons.mpr ⟨(show jv _ from hv), hst⟩) hL hσ H locs ls hP hS hl hlen
theorem ks_lsub (S : Sem l cc own ret fr lo Q K) {x y : Int} (hd : decode cc pc = .ok (.lsub, 1)) (hn : pc + 1 = n) (hv : -9223372036854775808 ≤ x - y ∧ x - y ≤ 9223372036854775807) (k : K n L (kj (x - y) :: st) σ) : K pc L (kj y :: kj x :: st) σ := by
  obtain ⟨p, e, R, s, m, args, below, meth, c, ad, cA, D, A, H0, cells, slots, Qf, hx, hb, hown, hts, hR, hK, hN, hi, hA, hret, rfl⟩ := S
  subst hn
  intro hst hL hσ H locs ls hP hS hl hlen
  simp only [List.forall_mem_cons] at hst
  obtain ⟨h2, h1, hst⟩ := hst
  refine lv_lsub hx hb hd ?_
  rw [kn_subJ]
  exact k (List.forall_mem_cons.mpr ⟨(show jv _ from hv), hst⟩) hL hσ H locs ls hP hS hl hlen
theorem ks_lmul (S : Sem l cc own ret fr lo Q K) {x y : Int} (hd : decode cc pc = .ok (.lmul, 1)) (hn : pc + 1 = n) (hv : -9223372036854775808 ≤ x * y ∧ x * y ≤ 9223372036854775807) (k : K n L (kj (x * y) :: st) σ) : K pc L (kj y :: kj x :: st) σ := by
  obtain ⟨p, e, R, s, m, args, below, meth, c, ad, cA, D, A, H0, cells, slots, Qf, hx, hb, hown, hts, hR, hK, hN, hi, hA, hret, rfl⟩ := S
  subst hn
  intro hst hL hσ H locs ls hP hS hl hlen
  simp only [List.forall_mem_cons] at hst
  obtain ⟨h2, h1, hst⟩ := hst
  refine lv_lmul hx hb hd ?_
  rw [kn_mulJ]
  exact k (List.forall_mem_cons.mpr ⟨(show jv _ from hv), hst⟩) hL hσ H locs ls hP hS hl hlen
theorem ks_idiv (S : Sem l cc own ret fr lo Q K) {x y : Int} (hd : decode cc pc = .ok (.idiv, 1)) (hn : pc + 1 = n) (hv : 0 ≤ x ∧ 0 < y) (k : K n L (ki (x / y) :: st) σ) : K pc L (ki y :: ki x :: st) σ := by
  obtain ⟨p, e, R, s, m, args, below, meth, c, ad, cA, D, A, H0, cells, slots, Qf, hx, hb, hown, hts, hR, hK, hN, hi, hA, hret, rfl⟩ := S
  subst hn
  intro hst hL hσ H locs ls hP hS hl hlen
  simp only [List.forall_mem_cons] at hst
  obtain ⟨h2, h1, hst⟩ := hst
  refine lv_idiv hx hb hd (fun h => by rw [kn_0] at h; have h9 := (kn_eq h2 iv_0).mp h; omega) ?_
  rw [kn_div h1 h2 hv.1 hv.2]
  exact k (List.forall_mem_cons.mpr ⟨(by have h3 : 0 ≤ x / y := Int.ediv_nonneg hv.1 (by omega); have h4 : x / y ≤ x := Int.ediv_le_self _ hv.1; have h5 : iv x := h1; unfold iv at h5; exact (show iv _ from ⟨by omega, by omega⟩)), hst⟩) hL hσ H locs ls hP hS hl hlen
theorem ks_irem (S : Sem l cc own ret fr lo Q K) {x y : Int} (hd : decode cc pc = .ok (.irem, 1)) (hn : pc + 1 = n) (hv : 0 ≤ x ∧ 0 < y) (k : K n L (ki (x % y) :: st) σ) : K pc L (ki y :: ki x :: st) σ := by
  obtain ⟨p, e, R, s, m, args, below, meth, c, ad, cA, D, A, H0, cells, slots, Qf, hx, hb, hown, hts, hR, hK, hN, hi, hA, hret, rfl⟩ := S
  subst hn
  intro hst hL hσ H locs ls hP hS hl hlen
  simp only [List.forall_mem_cons] at hst
  obtain ⟨h2, h1, hst⟩ := hst
  refine lv_irem hx hb hd (fun h => by rw [kn_0] at h; have h9 := (kn_eq h2 iv_0).mp h; omega) ?_
  rw [kn_rem h1 h2 hv.1 hv.2]
  exact k (List.forall_mem_cons.mpr ⟨(by have h3 : 0 ≤ x % y := Int.emod_nonneg _ (by omega); have h4 : x % y < y := Int.emod_lt_of_pos _ hv.2; have h5 : iv y := h2; unfold iv at h5; exact (show iv _ from ⟨by omega, by omega⟩)), hst⟩) hL hσ H locs ls hP hS hl hlen
theorem ks_ldiv (S : Sem l cc own ret fr lo Q K) {x y : Int} (hd : decode cc pc = .ok (.ldiv, 1)) (hn : pc + 1 = n) (hv : 0 ≤ x ∧ 0 < y) (k : K n L (kj (x / y) :: st) σ) : K pc L (kj y :: kj x :: st) σ := by
  obtain ⟨p, e, R, s, m, args, below, meth, c, ad, cA, D, A, H0, cells, slots, Qf, hx, hb, hown, hts, hR, hK, hN, hi, hA, hret, rfl⟩ := S
  subst hn
  intro hst hL hσ H locs ls hP hS hl hlen
  simp only [List.forall_mem_cons] at hst
  obtain ⟨h2, h1, hst⟩ := hst
  refine lv_ldiv hx hb hd (kn_j0 h2 hv.2) ?_
  rw [kn_divJ h1 h2 hv.1 hv.2]
  exact k (List.forall_mem_cons.mpr ⟨(by have h3 : 0 ≤ x / y := Int.ediv_nonneg hv.1 (by omega); have h4 : x / y ≤ x := Int.ediv_le_self _ hv.1; have h5 : jv x := h1; unfold jv at h5; exact (show jv _ from ⟨by omega, by omega⟩)), hst⟩) hL hσ H locs ls hP hS hl hlen
theorem ks_lrem (S : Sem l cc own ret fr lo Q K) {x y : Int} (hd : decode cc pc = .ok (.lrem, 1)) (hn : pc + 1 = n) (hv : 0 ≤ x ∧ 0 < y) (k : K n L (kj (x % y) :: st) σ) : K pc L (kj y :: kj x :: st) σ := by
  obtain ⟨p, e, R, s, m, args, below, meth, c, ad, cA, D, A, H0, cells, slots, Qf, hx, hb, hown, hts, hR, hK, hN, hi, hA, hret, rfl⟩ := S
  subst hn
  intro hst hL hσ H locs ls hP hS hl hlen
  simp only [List.forall_mem_cons] at hst
  obtain ⟨h2, h1, hst⟩ := hst
  refine lv_lrem hx hb hd (kn_j0 h2 hv.2) ?_
  rw [kn_remJ h1 h2 hv.1 hv.2]
  exact k (List.forall_mem_cons.mpr ⟨(by have h3 : 0 ≤ x % y := Int.emod_nonneg _ (by omega); have h4 : x % y < y := Int.emod_lt_of_pos _ hv.2; have h5 : jv y := h2; unfold jv at h5; exact (show jv _ from ⟨by omega, by omega⟩)), hst⟩) hL hσ H locs ls hP hS hl hlen
theorem ks_iand (S : Sem l cc own ret fr lo Q K) {x y : Int} (hd : decode cc pc = .ok (.iand, 1)) (hn : pc + 1 = n)  (k : K n L (ki (ib_and x y) :: st) σ) : K pc L (ki y :: ki x :: st) σ := by
  obtain ⟨p, e, R, s, m, args, below, meth, c, ad, cA, D, A, H0, cells, slots, Qf, hx, hb, hown, hts, hR, hK, hN, hi, hA, hret, rfl⟩ := S
  subst hn
  intro hst hL hσ H locs ls hP hS hl hlen
  simp only [List.forall_mem_cons] at hst
  obtain ⟨h2, h1, hst⟩ := hst
  refine lv_iand hx hb hd ?_
  rw [show (Int32.ofInt x &&& Int32.ofInt y) = Int32.ofInt (ib_and x y) from (Int32.ofInt_toInt _).symm]
  exact k (List.forall_mem_cons.mpr ⟨iv_to _, hst⟩) hL hσ H locs ls hP hS hl hlen
theorem ks_ior (S : Sem l cc own ret fr lo Q K) {x y : Int} (hd : decode cc pc = .ok (.ior, 1)) (hn : pc + 1 = n)  (k : K n L (ki (ib_or x y) :: st) σ) : K pc L (ki y :: ki x :: st) σ := by
  obtain ⟨p, e, R, s, m, args, below, meth, c, ad, cA, D, A, H0, cells, slots, Qf, hx, hb, hown, hts, hR, hK, hN, hi, hA, hret, rfl⟩ := S
  subst hn
  intro hst hL hσ H locs ls hP hS hl hlen
  simp only [List.forall_mem_cons] at hst
  obtain ⟨h2, h1, hst⟩ := hst
  refine lv_ior hx hb hd ?_
  rw [show (Int32.ofInt x ||| Int32.ofInt y) = Int32.ofInt (ib_or x y) from (Int32.ofInt_toInt _).symm]
  exact k (List.forall_mem_cons.mpr ⟨iv_to _, hst⟩) hL hσ H locs ls hP hS hl hlen
theorem ks_ixor (S : Sem l cc own ret fr lo Q K) {x y : Int} (hd : decode cc pc = .ok (.ixor, 1)) (hn : pc + 1 = n)  (k : K n L (ki (ib_xor x y) :: st) σ) : K pc L (ki y :: ki x :: st) σ := by
  obtain ⟨p, e, R, s, m, args, below, meth, c, ad, cA, D, A, H0, cells, slots, Qf, hx, hb, hown, hts, hR, hK, hN, hi, hA, hret, rfl⟩ := S
  subst hn
  intro hst hL hσ H locs ls hP hS hl hlen
  simp only [List.forall_mem_cons] at hst
  obtain ⟨h2, h1, hst⟩ := hst
  refine lv_ixor hx hb hd ?_
  rw [show (Int32.ofInt x ^^^ Int32.ofInt y) = Int32.ofInt (ib_xor x y) from (Int32.ofInt_toInt _).symm]
  exact k (List.forall_mem_cons.mpr ⟨iv_to _, hst⟩) hL hσ H locs ls hP hS hl hlen
theorem ks_ishl (S : Sem l cc own ret fr lo Q K) {x y : Int} (hd : decode cc pc = .ok (.ishl, 1)) (hn : pc + 1 = n)  (k : K n L (ki (ib_shl x y) :: st) σ) : K pc L (ki y :: ki x :: st) σ := by
  obtain ⟨p, e, R, s, m, args, below, meth, c, ad, cA, D, A, H0, cells, slots, Qf, hx, hb, hown, hts, hR, hK, hN, hi, hA, hret, rfl⟩ := S
  subst hn
  intro hst hL hσ H locs ls hP hS hl hlen
  simp only [List.forall_mem_cons] at hst
  obtain ⟨h2, h1, hst⟩ := hst
  refine lv_ishl hx hb hd ?_
  rw [show (Int32.ofInt x <<< (Int32.ofInt y &&& 31)) = Int32.ofInt (ib_shl x y) from (Int32.ofInt_toInt _).symm]
  exact k (List.forall_mem_cons.mpr ⟨iv_to _, hst⟩) hL hσ H locs ls hP hS hl hlen
theorem ks_ishr (S : Sem l cc own ret fr lo Q K) {x y : Int} (hd : decode cc pc = .ok (.ishr, 1)) (hn : pc + 1 = n)  (k : K n L (ki (ib_shr x y) :: st) σ) : K pc L (ki y :: ki x :: st) σ := by
  obtain ⟨p, e, R, s, m, args, below, meth, c, ad, cA, D, A, H0, cells, slots, Qf, hx, hb, hown, hts, hR, hK, hN, hi, hA, hret, rfl⟩ := S
  subst hn
  intro hst hL hσ H locs ls hP hS hl hlen
  simp only [List.forall_mem_cons] at hst
  obtain ⟨h2, h1, hst⟩ := hst
  refine lv_ishr hx hb hd ?_
  rw [show (Int32.ofInt x >>> (Int32.ofInt y &&& 31)) = Int32.ofInt (ib_shr x y) from (Int32.ofInt_toInt _).symm]
  exact k (List.forall_mem_cons.mpr ⟨iv_to _, hst⟩) hL hσ H locs ls hP hS hl hlen
theorem ks_iushr (S : Sem l cc own ret fr lo Q K) {x y : Int} (hd : decode cc pc = .ok (.iushr, 1)) (hn : pc + 1 = n)  (k : K n L (ki (ib_ushr x y) :: st) σ) : K pc L (ki y :: ki x :: st) σ := by
  obtain ⟨p, e, R, s, m, args, below, meth, c, ad, cA, D, A, H0, cells, slots, Qf, hx, hb, hown, hts, hR, hK, hN, hi, hA, hret, rfl⟩ := S
  subst hn
  intro hst hL hσ H locs ls hP hS hl hlen
  simp only [List.forall_mem_cons] at hst
  obtain ⟨h2, h1, hst⟩ := hst
  refine lv_iushr hx hb hd rfl ?_
  rw [show ((Int32.ofInt x).toUInt32 >>> ((Int32.ofInt y).toUInt32 &&& Int32.toUInt32 31)).toInt32 = Int32.ofInt (ib_ushr x y) from (Int32.ofInt_toInt _).symm]
  exact k (List.forall_mem_cons.mpr ⟨iv_to _, hst⟩) hL hσ H locs ls hP hS hl hlen
theorem ks_ineg (S : Sem l cc own ret fr lo Q K) {x : Int} (hd : decode cc pc = .ok (.ineg, 1)) (hn : pc + 1 = n) (hv : -2147483648 ≤ -x ∧ -x ≤ 2147483647) (k : K n L (ki (-x) :: st) σ) : K pc L (ki x :: st) σ := by
  obtain ⟨p, e, R, s, m, args, below, meth, c, ad, cA, D, A, H0, cells, slots, Qf, hx, hb, hown, hts, hR, hK, hN, hi, hA, hret, rfl⟩ := S
  subst hn
  intro hst hL hσ H locs ls hP hS hl hlen
  simp only [List.forall_mem_cons] at hst
  obtain ⟨h1, hst⟩ := hst
  refine lv_ineg hx hb hd ?_
  rw [show -(Int32.ofInt x) = Int32.ofInt (-x) from (Int32.ofInt_neg x).symm]
  exact k (List.forall_mem_cons.mpr ⟨(show iv _ from hv), hst⟩) hL hσ H locs ls hP hS hl hlen
theorem ks_i2l (S : Sem l cc own ret fr lo Q K) {x : Int} (hd : decode cc pc = .ok (.i2l, 1)) (hn : pc + 1 = n)  (k : K n L (kj x :: st) σ) : K pc L (ki x :: st) σ := by
  obtain ⟨p, e, R, s, m, args, below, meth, c, ad, cA, D, A, H0, cells, slots, Qf, hx, hb, hown, hts, hR, hK, hN, hi, hA, hret, rfl⟩ := S
  subst hn
  intro hst hL hσ H locs ls hP hS hl hlen
  simp only [List.forall_mem_cons] at hst
  obtain ⟨h1, hst⟩ := hst
  refine lv_i2l hx hb hd (v := Int64.ofInt x) ?_ ?_
  · exact kn_jj (by rw [Int32.toInt_toInt64, kn_i h1])
  exact k (List.forall_mem_cons.mpr ⟨(by have h5 : iv x := h1; unfold iv at h5; exact (show jv _ from ⟨by omega, by omega⟩)), hst⟩) hL hσ H locs ls hP hS hl hlen
theorem ks_dup (S : Sem l cc own ret fr lo Q K) {a : KV} (hd : decode cc pc = .ok (.dup, 1)) (hn : pc + 1 = n) (hc : kcat a = 1) (k : K n L (a :: a :: st) σ) : K pc L (a :: st) σ := by
  obtain ⟨p, e, R, s, m, args, below, meth, c, ad, cA, D, A, H0, cells, slots, Qf, hx, hb, hown, hts, hR, hK, hN, hi, hA, hret, rfl⟩ := S
  subst hn
  intro hst hL hσ H locs ls hP hS hl hlen
  simp only [List.forall_mem_cons] at hst
  refine lv_dup hx hb hd (by rw [vv_cat]; exact hc) ?_
  exact k (List.forall_mem_cons.mpr ⟨hst.1, List.forall_mem_cons.mpr hst⟩) hL hσ H locs ls hP hS hl hlen
theorem ks_dup2 (S : Sem l cc own ret fr lo Q K) {a b : KV} (hd : decode cc pc = .ok (.dup2, 1)) (hn : pc + 1 = n) (ha : kcat a = 1) (hbc : kcat b = 1) (k : K n L (a :: b :: a :: b :: st) σ) : K pc L (a :: b :: st) σ := by
  obtain ⟨p, e, R, s, m, args, below, meth, c, ad, cA, D, A, H0, cells, slots, Qf, hx, hb, hown, hts, hR, hK, hN, hi, hA, hret, rfl⟩ := S
  subst hn
  intro hst hL hσ H locs ls hP hS hl hlen
  simp only [List.forall_mem_cons] at hst
  refine lv_dup2_11 hx hb hd (by rw [vv_cat]; exact ha) (by rw [vv_cat]; exact hbc) ?_
  exact k (List.forall_mem_cons.mpr ⟨hst.1, List.forall_mem_cons.mpr ⟨hst.2.1, List.forall_mem_cons.mpr ⟨hst.1, List.forall_mem_cons.mpr hst.2⟩⟩⟩) hL hσ H locs ls hP hS hl hlen
theorem ks_icmp_eq (S : Sem l cc own ret fr lo Q K) {x y off : Int} {tgt : Nat} (hd : decode cc pc = .ok (.if_icmp .eq off, 3)) (ht : (pc : Int) + off = (tgt : Int)) (hn : pc + 3 = n) (kt : x = y → K tgt L st σ) (kf : ¬ (x = y) → K n L st σ) : K pc L (ki y :: ki x :: st) σ := by
  obtain ⟨p, e, R, s, m, args, below, meth, c, ad, cA, D, A, H0, cells, slots, Qf, hx, hb, hown, hts, hR, hK, hN, hi, hA, hret, rfl⟩ := S
  subst hn
  intro hst hL hσ H locs ls hP hS hl hlen
  simp only [List.forall_mem_cons] at hst
  obtain ⟨h2, h1, hst⟩ := hst
  exact lv_icmp_eq hx hb hd ht (fun h => kt ((kn_eq h1 h2).mp h) hst hL hσ H locs ls hP hS hl hlen) (fun h => kf (fun h9 => h ((kn_eq h1 h2).mpr h9)) hst hL hσ H locs ls hP hS hl hlen)
theorem ks_if_eq (S : Sem l cc own ret fr lo Q K) {x off : Int} {tgt : Nat} (hd : decode cc pc = .ok (.ifCond .eq off, 3)) (ht : (pc : Int) + off = (tgt : Int)) (hn : pc + 3 = n) (kt : x = 0 → K tgt L st σ) (kf : ¬ (x = 0) → K n L st σ) : K pc L (ki x :: st) σ := by
  obtain ⟨p, e, R, s, m, args, below, meth, c, ad, cA, D, A, H0, cells, slots, Qf, hx, hb, hown, hts, hR, hK, hN, hi, hA, hret, rfl⟩ := S
  subst hn
  intro hst hL hσ H locs ls hP hS hl hlen
  simp only [List.forall_mem_cons] at hst
  obtain ⟨h1, hst⟩ := hst
  exact lv_if_eq hx hb hd ht (fun h => kt ((kn_eq h1 iv_0).mp h) hst hL hσ H locs ls hP hS hl hlen) (fun h => kf (fun h9 => h ((kn_eq h1 iv_0).mpr h9)) hst hL hσ H locs ls hP hS hl hlen)
theorem ks_icmp_ne (S : Sem l cc own ret fr lo Q K) {x y off : Int} {tgt : Nat} (hd : decode cc pc = .ok (.if_icmp .ne off, 3)) (ht : (pc : Int) + off = (tgt : Int)) (hn : pc + 3 = n) (kt : x ≠ y → K tgt L st σ) (kf : x = y → K n L st σ) : K pc L (ki y :: ki x :: st) σ := by
  obtain ⟨p, e, R, s, m, args, below, meth, c, ad, cA, D, A, H0, cells, slots, Qf, hx, hb, hown, hts, hR, hK, hN, hi, hA, hret, rfl⟩ := S
  subst hn
  intro hst hL hσ H locs ls hP hS hl hlen
  simp only [List.forall_mem_cons] at hst
  obtain ⟨h2, h1, hst⟩ := hst
  exact lv_icmp_ne hx hb hd ht (fun h => kt (fun h9 => h (by have h8 := (kn_eq h1 h2).mpr h9; exact h8)) hst hL hσ H locs ls hP hS hl hlen) (fun h => kf ((kn_eq h1 h2).mp h) hst hL hσ H locs ls hP hS hl hlen)
theorem ks_if_ne (S : Sem l cc own ret fr lo Q K) {x off : Int} {tgt : Nat} (hd : decode cc pc = .ok (.ifCond .ne off, 3)) (ht : (pc : Int) + off = (tgt : Int)) (hn : pc + 3 = n) (kt : x ≠ 0 → K tgt L st σ) (kf : x = 0 → K n L st σ) : K pc L (ki x :: st) σ := by
  obtain ⟨p, e, R, s, m, args, below, meth, c, ad, cA, D, A, H0, cells, slots, Qf, hx, hb, hown, hts, hR, hK, hN, hi, hA, hret, rfl⟩ := S
  subst hn
  intro hst hL hσ H locs ls hP hS hl hlen
  simp only [List.forall_mem_cons] at hst
  obtain ⟨h1, hst⟩ := hst
  exact lv_if_ne hx hb hd ht (fun h => kt (fun h9 => h (by have h8 := (kn_eq h1 iv_0).mpr h9; exact h8)) hst hL hσ H locs ls hP hS hl hlen) (fun h => kf ((kn_eq h1 iv_0).mp h) hst hL hσ H locs ls hP hS hl hlen)
theorem ks_icmp_lt (S : Sem l cc own ret fr lo Q K) {x y off : Int} {tgt : Nat} (hd : decode cc pc = .ok (.if_icmp .lt off, 3)) (ht : (pc : Int) + off = (tgt : Int)) (hn : pc + 3 = n) (kt : x < y → K tgt L st σ) (kf : ¬ (x < y) → K n L st σ) : K pc L (ki y :: ki x :: st) σ := by
  obtain ⟨p, e, R, s, m, args, below, meth, c, ad, cA, D, A, H0, cells, slots, Qf, hx, hb, hown, hts, hR, hK, hN, hi, hA, hret, rfl⟩ := S
  subst hn
  intro hst hL hσ H locs ls hP hS hl hlen
  simp only [List.forall_mem_cons] at hst
  obtain ⟨h2, h1, hst⟩ := hst
  exact lv_icmp_lt hx hb hd ht (fun h => kt ((kn_lt h1 h2).mp h) hst hL hσ H locs ls hP hS hl hlen) (fun h => kf (fun h9 => h ((kn_lt h1 h2).mpr h9)) hst hL hσ H locs ls hP hS hl hlen)
theorem ks_if_lt (S : Sem l cc own ret fr lo Q K) {x off : Int} {tgt : Nat} (hd : decode cc pc = .ok (.ifCond .lt off, 3)) (ht : (pc : Int) + off = (tgt : Int)) (hn : pc + 3 = n) (kt : x < 0 → K tgt L st σ) (kf : ¬ (x < 0) → K n L st σ) : K pc L (ki x :: st) σ := by
  obtain ⟨p, e, R, s, m, args, below, meth, c, ad, cA, D, A, H0, cells, slots, Qf, hx, hb, hown, hts, hR, hK, hN, hi, hA, hret, rfl⟩ := S
  subst hn
  intro hst hL hσ H locs ls hP hS hl hlen
  simp only [List.forall_mem_cons] at hst
  obtain ⟨h1, hst⟩ := hst
  exact lv_if_lt hx hb hd ht (fun h => kt ((kn_lt h1 iv_0).mp h) hst hL hσ H locs ls hP hS hl hlen) (fun h => kf (fun h9 => h ((kn_lt h1 iv_0).mpr h9)) hst hL hσ H locs ls hP hS hl hlen)
theorem ks_icmp_ge (S : Sem l cc own ret fr lo Q K) {x y off : Int} {tgt : Nat} (hd : decode cc pc = .ok (.if_icmp .ge off, 3)) (ht : (pc : Int) + off = (tgt : Int)) (hn : pc + 3 = n) (kt : y ≤ x → K tgt L st σ) (kf : ¬ (y ≤ x) → K n L st σ) : K pc L (ki y :: ki x :: st) σ := by
  obtain ⟨p, e, R, s, m, args, below, meth, c, ad, cA, D, A, H0, cells, slots, Qf, hx, hb, hown, hts, hR, hK, hN, hi, hA, hret, rfl⟩ := S
  subst hn
  intro hst hL hσ H locs ls hP hS hl hlen
  simp only [List.forall_mem_cons] at hst
  obtain ⟨h2, h1, hst⟩ := hst
  exact lv_icmp_ge hx hb hd ht (fun h => kt ((kn_le h2 h1).mp h) hst hL hσ H locs ls hP hS hl hlen) (fun h => kf (fun h9 => h ((kn_le h2 h1).mpr h9)) hst hL hσ H locs ls hP hS hl hlen)
theorem ks_if_ge (S : Sem l cc own ret fr lo Q K) {x off : Int} {tgt : Nat} (hd : decode cc pc = .ok (.ifCond .ge off, 3)) (ht : (pc : Int) + off = (tgt : Int)) (hn : pc + 3 = n) (kt : 0 ≤ x → K tgt L st σ) (kf : ¬ (0 ≤ x) → K n L st σ) : K pc L (ki x :: st) σ := by
  obtain ⟨p, e, R, s, m, args, below, meth, c, ad, cA, D, A, H0, cells, slots, Qf, hx, hb, hown, hts, hR, hK, hN, hi, hA, hret, rfl⟩ := S
  subst hn
  intro hst hL hσ H locs ls hP hS hl hlen
  simp only [List.forall_mem_cons] at hst
  obtain ⟨h1, hst⟩ := hst
  exact lv_if_ge hx hb hd ht (fun h => kt ((kn_le iv_0 h1).mp h) hst hL hσ H locs ls hP hS hl hlen) (fun h => kf (fun h9 => h ((kn_le iv_0 h1).mpr h9)) hst hL hσ H locs ls hP hS hl hlen)
theorem ks_icmp_gt (S : Sem l cc own ret fr lo Q K) {x y off : Int} {tgt : Nat} (hd : decode cc pc = .ok (.if_icmp .gt off, 3)) (ht : (pc : Int) + off = (tgt : Int)) (hn : pc + 3 = n) (kt : y < x → K tgt L st σ) (kf : ¬ (y < x) → K n L st σ) : K pc L (ki y :: ki x :: st) σ := by
  obtain ⟨p, e, R, s, m, args, below, meth, c, ad, cA, D, A, H0, cells, slots, Qf, hx, hb, hown, hts, hR, hK, hN, hi, hA, hret, rfl⟩ := S
  subst hn
  intro hst hL hσ H locs ls hP hS hl hlen
  simp only [List.forall_mem_cons] at hst
  obtain ⟨h2, h1, hst⟩ := hst
  exact lv_icmp_gt hx hb hd ht (fun h => kt ((kn_lt h2 h1).mp h) hst hL hσ H locs ls hP hS hl hlen) (fun h => kf (fun h9 => h ((kn_lt h2 h1).mpr h9)) hst hL hσ H locs ls hP hS hl hlen)
theorem ks_if_gt (S : Sem l cc own ret fr lo Q K) {x off : Int} {tgt : Nat} (hd : decode cc pc = .ok (.ifCond .gt off, 3)) (ht : (pc : Int) + off = (tgt : Int)) (hn : pc + 3 = n) (kt : 0 < x → K tgt L st σ) (kf : ¬ (0 < x) → K n L st σ) : K pc L (ki x :: st) σ := by
  obtain ⟨p, e, R, s, m, args, below, meth, c, ad, cA, D, A, H0, cells, slots, Qf, hx, hb, hown, hts, hR, hK, hN, hi, hA, hret, rfl⟩ := S
  subst hn
  intro hst hL hσ H locs ls hP hS hl hlen
  simp only [List.forall_mem_cons] at hst
  obtain ⟨h1, hst⟩ := hst
  exact lv_if_gt hx hb hd ht (fun h => kt ((kn_lt iv_0 h1).mp h) hst hL hσ H locs ls hP hS hl hlen) (fun h => kf (fun h9 => h ((kn_lt iv_0 h1).mpr h9)) hst hL hσ H locs ls hP hS hl hlen)
theorem ks_icmp_le (S : Sem l cc own ret fr lo Q K) {x y off : Int} {tgt : Nat} (hd : decode cc pc = .ok (.if_icmp .le off, 3)) (ht : (pc : Int) + off = (tgt : Int)) (hn : pc + 3 = n) (kt : x ≤ y → K tgt L st σ) (kf : ¬ (x ≤ y) → K n L st σ) : K pc L (ki y :: ki x :: st) σ := by
  obtain ⟨p, e, R, s, m, args, below, meth, c, ad, cA, D, A, H0, cells, slots, Qf, hx, hb, hown, hts, hR, hK, hN, hi, hA, hret, rfl⟩ := S
  subst hn
  intro hst hL hσ H locs ls hP hS hl hlen
  simp only [List.forall_mem_cons] at hst
  obtain ⟨h2, h1, hst⟩ := hst
  exact lv_icmp_le hx hb hd ht (fun h => kt ((kn_le h1 h2).mp h) hst hL hσ H locs ls hP hS hl hlen) (fun h => kf (fun h9 => h ((kn_le h1 h2).mpr h9)) hst hL hσ H locs ls hP hS hl hlen)
theorem ks_if_le (S : Sem l cc own ret fr lo Q K) {x off : Int} {tgt : Nat} (hd : decode cc pc = .ok (.ifCond .le off, 3)) (ht : (pc : Int) + off = (tgt : Int)) (hn : pc + 3 = n) (kt : x ≤ 0 → K tgt L st σ) (kf : ¬ (x ≤ 0) → K n L st σ) : K pc L (ki x :: st) σ := by
  obtain ⟨p, e, R, s, m, args, below, meth, c, ad, cA, D, A, H0, cells, slots, Qf, hx, hb, hown, hts, hR, hK, hN, hi, hA, hret, rfl⟩ := S
  subst hn
  intro hst hL hσ H locs ls hP hS hl hlen
  simp only [List.forall_mem_cons] at hst
  obtain ⟨h1, hst⟩ := hst
  exact lv_if_le hx hb hd ht (fun h => kt ((kn_le h1 iv_0).mp h) hst hL hσ H locs ls hP hS hl hlen) (fun h => kf (fun h9 => h ((kn_le h1 iv_0).mpr h9)) hst hL hσ H locs ls hP hS hl hlen)
theorem ks_goto (S : Sem l cc own ret fr lo Q K) {off : Int} (hd : decode cc pc = .ok (.goto off, 3)) (ht : (pc : Int) + off = (n : Int)) (k : K n L st σ) : K pc L st σ := by
  obtain ⟨p, e, R, s, m, args, below, meth, c, ad, cA, D, A, H0, cells, slots, Qf, hx, hb, hown, hts, hR, hK, hN, hi, hA, hret, rfl⟩ := S
  intro hst hL hσ H locs ls hP hS hl hlen
  exact lv_goto hx hb hd ht (k hst hL hσ H locs ls hP hS hl hlen)
end KSTEP
