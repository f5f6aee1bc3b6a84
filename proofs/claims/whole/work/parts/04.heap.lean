section KHEAP
variable {l : Launch} {cc : ByteArray} {own : String} {ret : Option FieldType} {fr lo : Nat} {Q : Option KV → KS → Prop} {K : Nat → KL → List KV → KS → Prop} {pc n : Nat} {L : KL} {st : List KV} {σ : KS}
theorem iv_up {σ : KS} {c : Nat} {i v : Int} (h : ∀ c i, iv (σ c i)) (hv : iv v) : ∀ c' i', iv (kq_up σ c i v c' i') := by
  intro c' i'
  unfold kq_up
  split
  · exact hv
  · exact h c' i'
theorem ks_iaload (S : Sem l cc own ret fr lo Q K) {a len : Nat} {i : Int} (hd : decode cc pc = .ok (.iaload, 1)) (hn : pc + 1 = n) (hc : kq_sh[a]? = some (.inl len)) (hv : 0 ≤ i ∧ i < len) (k : K n L (ki (σ a i) :: st) σ) : K pc L (ki i :: kr a :: st) σ := by
  obtain ⟨p, e, R, s, m, args, below, meth, c, ad, cA, D, A, H0, cells, slots, Qf, hx, hb, hown, hts, hR, hK, hN, hi, hA, hret, rfl⟩ := S
  subst hn
  intro hst hL hσ H locs ls hP hS hl hlen
  simp only [List.forall_mem_cons] at hst
  obtain ⟨h2, h1, hst⟩ := hst
  refine va_iald hx hb hK hP a 0 (kq_w_at hc) rfl (kn_in h2 hv) hd ?_
  have hk := k (List.forall_mem_cons.mpr ⟨hσ a i, hst⟩) hL hσ H locs ls hP hS hl hlen
  rw [kn_cl h2 hv.1]
  exact hk
theorem ks_iastore (S : Sem l cc own ret fr lo Q K) {a len : Nat} {i v : Int} (hd : decode cc pc = .ok (.iastore, 1)) (hn : pc + 1 = n) (hc : kq_sh[a]? = some (.inl len)) (hv : 0 ≤ i ∧ i < len) (k : K n L st (kq_up σ a i v)) : K pc L (ki v :: ki i :: kr a :: st) σ := by
  obtain ⟨p, e, R, s, m, args, below, meth, c, ad, cA, D, A, H0, cells, slots, Qf, hx, hb, hown, hts, hR, hK, hN, hi, hA, hret, rfl⟩ := S
  subst hn
  intro hst hL hσ H locs ls hP hS hl hlen
  simp only [List.forall_mem_cons] at hst
  obtain ⟨h3, h2, h1, hst⟩ := hst
  refine va_iast hx hb hK hP (kq_D hi hA) hS a 0 (kq_w_at hc) rfl (kn_in h2 hv) hd (fun H1 locs1 hP1 hD1 hS1 => ?_)
  rw [kq_w_set (i := i) (v := v) hc (by
    unfold kq_cell
    congr 5
    funext j
    unfold upd kq_up
    have e := kn_cl h2 hv.1
    by_cases hj : j = (Int32.ofInt i).toNatClampNeg
    · rw [if_pos hj, if_pos ⟨rfl, by rw [hj]; exact e⟩]
    · rw [if_neg hj, if_neg (fun h => hj (by omega))])] at hP1
  exact k hst hL (iv_up hσ h3) H1 locs1 ls hP1 hS1 hl hlen
theorem ks_geti (S : Sem l cc own ret fr lo Q K) {a idx ci f : Nat} {fs : List (Option Nat)} (hd : decode cc pc = .ok (.getfield idx, 3)) (hn : pc + 3 = n) (hf : kq_FL own idx ci f) (hc : kq_sh[a]? = some (.inr (ci, fs))) (hv : fs[f]? = some none) (k : K n L (ki (σ a (f : Int)) :: st) σ) : K pc L (kr a :: st) σ := by
  obtain ⟨p, e, R, s, m, args, below, meth, c, ad, cA, D, A, H0, cells, slots, Qf, hx, hb, hown, hts, hR, hK, hN, hi, hA, hret, rfl⟩ := S
  subst hn
  intro hst hL hσ H locs ls hP hS hl hlen
  simp only [List.forall_mem_cons] at hst
  obtain ⟨C, T, N, ⟨hcl, hin, -, -⟩, hk, hlk⟩ := hf
  refine va_get hx hb hts hin hown hK hP a (kq_w_at hc) hcl f hk (hts _ hlk) (fun _ h9 => h9) (v := .int (Int32.ofInt (σ a (f : Int)))) (by simp [List.getElem?_mapIdx, hv, kq_fv]) hd ?_
  exact k (List.forall_mem_cons.mpr ⟨hσ a f, hst.2⟩) hL hσ H locs ls hP hS hl hlen
theorem ks_getr (S : Sem l cc own ret fr lo Q K) {a b idx ci f : Nat} {fs : List (Option Nat)} (hd : decode cc pc = .ok (.getfield idx, 3)) (hn : pc + 3 = n) (hf : kq_FL own idx ci f) (hc : kq_sh[a]? = some (.inr (ci, fs))) (hv : fs[f]? = some (some b)) (k : K n L (kr b :: st) σ) : K pc L (kr a :: st) σ := by
  obtain ⟨p, e, R, s, m, args, below, meth, c, ad, cA, D, A, H0, cells, slots, Qf, hx, hb, hown, hts, hR, hK, hN, hi, hA, hret, rfl⟩ := S
  subst hn
  intro hst hL hσ H locs ls hP hS hl hlen
  simp only [List.forall_mem_cons] at hst
  obtain ⟨C, T, N, ⟨hcl, hin, -, -⟩, hk, hlk⟩ := hf
  refine va_get hx hb hts hin hown hK hP a (kq_w_at hc) hcl f hk (hts _ hlk) (fun _ h9 => h9) (v := .ref (ad b)) (by simp [List.getElem?_mapIdx, hv, kq_fv]) hd ?_
  exact k (List.forall_mem_cons.mpr ⟨trivial, hst.2⟩) hL hσ H locs ls hP hS hl hlen
theorem kq_set_fs {ad : Nat → Nat} {σ : KS} {a f : Nat} {v : Int} {fs : List (Option Nat)} (hv : fs[f]? = some none) : (fs.mapIdx (kq_fv ad σ a)).set f (.int (Int32.ofInt v)) = fs.mapIdx (kq_fv ad (kq_up σ a (f : Int) v) a) := by
  apply List.ext_getElem?
  intro j
  rw [List.getElem?_set]
  by_cases hj : f = j
  · subst hj
    have hl : f < fs.length := (List.getElem?_eq_some_iff.mp hv).1
    rw [if_pos rfl, if_pos (by simpa using hl), List.getElem?_mapIdx, hv]
    simp [kq_fv, kq_up_s]
  · rw [if_neg hj]
    simp only [List.getElem?_mapIdx]
    cases fs[j]? with
    | none => rfl
    | some o =>
      cases o with
      | none => simp only [Option.map_some, kq_fv]; rw [kq_up_i (by omega)]
      | some d => rfl
theorem ks_puti (S : Sem l cc own ret fr lo Q K) {a idx ci f : Nat} {v : Int} {fs : List (Option Nat)} {ty : FieldType} (hd : decode cc pc = .ok (.putfield idx, 3)) (hn : pc + 3 = n) (hf : kq_FW own idx ci f ty) (hc : kq_sh[a]? = some (.inr (ci, fs))) (hv : fs[f]? = some none) (hty : ty = .int ∨ (ty = .boolean ∧ (v = 0 ∨ v = 1))) (k : K n L st (kq_up σ a (f : Int) v)) : K pc L (ki v :: kr a :: st) σ := by
  obtain ⟨p, e, R, s, m, args, below, meth, c, ad, cA, D, A, H0, cells, slots, Qf, hx, hb, hown, hts, hR, hK, hN, hi, hA, hret, rfl⟩ := S
  subst hn
  intro hst hL hσ H locs ls hP hS hl hlen
  simp only [List.forall_mem_cons] at hst
  obtain ⟨h2, h1, hst⟩ := hst
  obtain ⟨C, T, N, ⟨hcl, hin, ⟨ty0, hty0⟩, hnm⟩, hk, hlk, hfin, hpd⟩ := hf
  have hnar : narrow ty (.int (Int32.ofInt v)) = .int (Int32.ofInt v) ∧ fits ty (.int (Int32.ofInt v)) = true := by
    rcases hty with rfl | ⟨rfl, rfl | rfl⟩
    · exact ⟨rfl, rfl⟩
    · exact ⟨rfl, rfl⟩
    · exact ⟨rfl, rfl⟩
  refine va_put hx hb hts hin ty0 hty0 hnm hown hK hP (kq_D hi hA) hS a (kq_w_at hc) hcl f hk (hts _ hlk) (fun _ h9 => h9) hfin hpd hnar.1 hnar.2 (by simpa using (List.getElem?_eq_some_iff.mp hv).1) hd (fun H1 locs1 hP1 hD1 hS1 => ?_)
  rw [kq_w_set (i := (f : Int)) (v := v) hc (by
    unfold kq_cell
    simp only
    rw [← kq_set_fs hv]
    rfl)] at hP1
  exact k hst hL (iv_up hσ h2) H1 locs1 ls hP1 hS1 hl hlen
/-! returns -/
theorem ks_iret (S : Sem l cc own (some .int) fr lo Q K) {x : Int} (hd : decode cc pc = .ok (.ireturn, 1)) (q : Q (some (ki x)) σ) : K pc L [ki x] σ := by
  obtain ⟨p, e, R, s, m, args, below, meth, c, ad, cA, D, A, H0, cells, slots, Qf, hx, hb, hown, hts, hR, hK, hN, hi, hA, hret, rfl⟩ := S
  intro hst hL hσ H locs ls hP hS hl hlen
  exact hret (some (ki x)) σ pc H locs ls ⟨hd, Or.inl rfl⟩ q (fun v h => by cases h; exact hst _ List.mem_cons_self) hσ hP hS
theorem ks_zret (S : Sem l cc own (some .boolean) fr lo Q K) {x : Int} (hd : decode cc pc = .ok (.ireturn, 1)) (hx : x = 0 ∨ x = 1) (q : Q (some (ki x)) σ) : K pc L [ki x] σ := by
  obtain ⟨p, e, R, s, m, args, below, meth, c, ad, cA, D, A, H0, cells, slots, Qf, -, hb, hown, hts, hR, hK, hN, hi, hA, hret, rfl⟩ := S
  intro hst hL hσ H locs ls hP hS hl hlen
  exact hret (some (ki x)) σ pc H locs ls ⟨hd, Or.inr ⟨rfl, hx⟩⟩ q (fun v h => by cases h; exact hst _ List.mem_cons_self) hσ hP hS
theorem ks_lret (S : Sem l cc own (some .long) fr lo Q K) {x : Int} (hd : decode cc pc = .ok (.lreturn, 1)) (q : Q (some (kj x)) σ) : K pc L [kj x] σ := by
  obtain ⟨p, e, R, s, m, args, below, meth, c, ad, cA, D, A, H0, cells, slots, Qf, -, hb, hown, hts, hR, hK, hN, hi, hA, hret, rfl⟩ := S
  intro hst hL hσ H locs ls hP hS hl hlen
  exact hret (some (kj x)) σ pc H locs ls ⟨hd, rfl⟩ q (fun v h => by cases h; exact hst _ List.mem_cons_self) hσ hP hS
theorem ks_vret (S : Sem l cc own none fr lo Q K) (hd : decode cc pc = .ok (.return_, 1)) (q : Q none σ) : K pc L [] σ := by
  obtain ⟨p, e, R, s, m, args, below, meth, c, ad, cA, D, A, H0, cells, slots, Qf, hx, hb, hown, hts, hR, hK, hN, hi, hA, hret, rfl⟩ := S
  intro hst hL hσ H locs ls hP hS hl hlen
  exact hret none σ pc H locs ls ⟨hd, rfl⟩ q (fun v h => by cases h) hσ hP hS
/-! lcmp and switches -/
def kq_cmp (x y : Int) : Int := if y < x then 1 else if x = y then 0 else -1
/-- the cases of a tableswitch: at v, v + 1, .. the places ts -/
def kq_tk (K : Nat → KL → List KV → KS → Prop) (L : KL) (st : List KV) (σ : KS) (x : Int) : Int → List Nat → Prop
  | _, [] => True
  | v, t :: r => (x = v → K t L st σ) ∧ kq_tk K L st σ x (v + 1) r
theorem kq_tk_at {x : Int} {ts : List Nat} {v : Int} (h : kq_tk K L st σ x v ts) {j t : Nat} (hj : ts[j]? = some t) (hx : x = v + j) : K t L st σ := by
  induction ts generalizing v j with
  | nil => simp at hj
  | cons a r ih =>
    cases j with
    | zero =>
      simp at hj
      subst hj
      exact h.1 (by omega)
    | succ i => exact ih h.2 (by simpa using hj) (by omega)
theorem ks_table (S : Sem l cc own ret fr lo Q K) {x dflt lw hi : Int} {offs : Array Int} {len tdf : Nat} (ts : List Nat) (hd : decode cc pc = .ok (.tableswitch dflt lw hi offs, len)) (hts : offs.toList.map (fun o => (pc : Int) + o) = ts.map (fun t : Nat => (t : Int))) (hlh : hi = lw + ts.length - 1) (hdf : (pc : Int) + dflt = (tdf : Int)) (kd : (x < lw ∨ hi < x) → K tdf L st σ) (kk : kq_tk K L st σ x lw ts) : K pc L (ki x :: st) σ := by
  obtain ⟨p, e, R, s, m, args, below, meth, c, ad, cA, D, A, H0, cells, slots, Qf, hx, hb, hown, htt, hR, hK, hN, hi1, hA, hret, rfl⟩ := S
  intro hst hL hσ H locs ls hP hS hl hlen
  simp only [List.forall_mem_cons] at hst
  obtain ⟨h1, hst⟩ := hst
  have hxi : (Int32.ofInt x).toInt = x := kn_i h1
  by_cases h : x < lw ∨ hi < x
  · exact lv_tableOut hx hb hd (by rw [hxi]; exact h) hdf (kd h hst hL hσ H locs ls hP hS hl hlen)
  · have hj : (x - lw).toNat < ts.length := by omega
    have hsz : offs.size = ts.length := by
      have := congrArg List.length hts
      simpa using this
    have ho : offs[(x - lw).toNat]? = some (offs[(x - lw).toNat]'(by omega)) := Array.getElem?_eq_getElem _
    have htg : (pc : Int) + offs[(x - lw).toNat]'(by omega) = ((ts[(x - lw).toNat]'hj : Nat) : Int) := by
      have h5 := congrArg (fun z => z[(x - lw).toNat]?) hts
      simp only [List.getElem?_map] at h5
      rw [List.getElem?_eq_getElem hj, Array.getElem?_toList, ho] at h5
      simpa using h5
    refine lv_tableIn hx hb hd (by rw [hxi]; omega) (by rw [hxi]; omega) (by rw [hxi]; exact ho) htg ?_
    exact (kq_tk_at kk (j := (x - lw).toNat) (List.getElem?_eq_getElem hj) (by omega)) hst hL hσ H locs ls hP hS hl hlen
/-- the cases of a lookupswitch -/
def kq_lk (K : Nat → KL → List KV → KS → Prop) (L : KL) (st : List KV) (σ : KS) (x : Int) (tdf : Nat) : List (Int × Nat) → Prop
  | [] => K tdf L st σ
  | q :: r => (x = q.1 → K q.2 L st σ) ∧ (x ≠ q.1 → kq_lk K L st σ x tdf r)
theorem kq_lk_at {x dflt : Int} {tdf : Nat} {ps : List (Int × Int)} {ts : List (Int × Nat)} (hts : ps.map (fun q => (q.1, (pc : Int) + q.2)) = ts.map (fun q => (q.1, (q.2 : Int)))) (hdf : (pc : Int) + dflt = (tdf : Int)) (h : kq_lk K L st σ x tdf ts) : ∃ (off : Int) (tgt : Nat), Op.lookupswitch.offset ps dflt x = off ∧ (pc : Int) + off = (tgt : Int) ∧ K tgt L st σ := by
  induction ps generalizing ts with
  | nil =>
    cases ts with
    | nil => exact ⟨dflt, tdf, rfl, hdf, h⟩
    | cons a b => simp at hts
  | cons a r ih =>
    cases ts with
    | nil => simp at hts
    | cons b r2 =>
      simp only [List.map_cons, List.cons.injEq, Prod.mk.injEq] at hts
      obtain ⟨⟨e1, e2⟩, e3⟩ := hts
      by_cases hx : x = a.1
      · refine ⟨a.2, b.2, ?_, e2, h.1 (by rw [hx, e1])⟩
        rw [Op.lookupswitch.offset_cons, if_pos hx.symm]
      · obtain ⟨off, tgt, h1, h2, h3⟩ := ih e3 (h.2 (by rw [← e1]; exact hx))
        refine ⟨off, tgt, ?_, h2, h3⟩
        rw [Op.lookupswitch.offset_cons, if_neg (fun h => hx h.symm)]
        exact h1
theorem ks_lookup (S : Sem l cc own ret fr lo Q K) {x dflt : Int} {ps : Array (Int × Int)} {len tdf : Nat} (ts : List (Int × Nat)) (hd : decode cc pc = .ok (.lookupswitch dflt ps, len)) (hp : (ps.toList.zip (ps.toList.drop 1)).all (fun (a, next) => a.1 < next.1) = true) (hts : ps.toList.map (fun q => (q.1, (pc : Int) + q.2)) = ts.map (fun q => (q.1, (q.2 : Int)))) (hdf : (pc : Int) + dflt = (tdf : Int)) (kk : kq_lk K L st σ x tdf ts) : K pc L (ki x :: st) σ := by
  obtain ⟨off, tgt, h1, h2, h3⟩ := kq_lk_at hts hdf kk
  obtain ⟨p, e, R, s, m, args, below, meth, c, ad, cA, D, A, H0, cells, slots, Qf, hx, hb, hown, htt, hR, hK, hN, hi1, hA, hret, rfl⟩ := S
  intro hst hL hσ H locs ls hP hS hl hlen
  simp only [List.forall_mem_cons] at hst
  have hxi : (Int32.ofInt x).toInt = x := kn_i hst.1
  exact lv_lookup hx hb hd hp (by rw [hxi]; exact h1) h2 (h3 hst.2 hL hσ H locs ls hP hS hl hlen)
theorem ks_mmax (S : Sem l cc own ret fr lo Q K) {x y : Int} {idx : Nat} (hd : decode cc pc = .ok (.invokestatic idx, 3)) (hn : pc + 3 = n) (hm : Cond.methodLink own idx Lib.Math.max.name ∈ kq_tb) (hr : 1 ≤ fr ∧ 21 ≤ lo) (hc : (st.map kcat).sum ≤ 8) (k : K n L (ki (if x < y then y else x) :: st) σ) : K pc L (ki y :: ki x :: st) σ := by
  obtain ⟨p, e, R, s, m, args, below, meth, c, ad, cA, D, A, H0, cells, slots, Qf, hx, hb, hown, hts, hR, hK, hN, hi, hA, hret, rfl⟩ := S
  subst hn
  intro hst hL hσ H locs ls hP hS hl hlen
  simp only [List.forall_mem_cons] at hst
  obtain ⟨h2, h1, hst⟩ := hst
  have hcat : ((st.map (vv ad)).map fun v => v.category).sum = (st.map kcat).sum := by
    rw [List.map_map]; congr 1; apply List.map_congr_left; intro v _; exact vv_cat ad v
  refine va_mmax hx hb (by rw [hl.1]; exact hlen.symm) hown (hts _ hm) (hts _ mj_max_s) (hts _ mj_i) (hts _ mj_max_c) (by omega) (by rw [hcat]; omega) hR.2.2.1 hR.2.2.2 hd ?_
  rw [show (if Int32.ofInt x < Int32.ofInt y then Int32.ofInt y else Int32.ofInt x) = Int32.ofInt (if x < y then y else x) by
    by_cases h : x < y
    · rw [if_pos h, if_pos ((kn_lt h1 h2).mpr h)]
    · rw [if_neg h, if_neg (fun h9 => h ((kn_lt h1 h2).mp h9))]]
  exact k (List.forall_mem_cons.mpr ⟨by split; exact h2; exact h1, hst⟩) hL hσ H locs ls hP hS hl hlen
theorem ks_mmin (S : Sem l cc own ret fr lo Q K) {x y : Int} {idx : Nat} (hd : decode cc pc = .ok (.invokestatic idx, 3)) (hn : pc + 3 = n) (hm : Cond.methodLink own idx Lib.Math.min.name ∈ kq_tb) (hr : 1 ≤ fr ∧ 21 ≤ lo) (hc : (st.map kcat).sum ≤ 8) (k : K n L (ki (if y < x then y else x) :: st) σ) : K pc L (ki y :: ki x :: st) σ := by
  obtain ⟨p, e, R, s, m, args, below, meth, c, ad, cA, D, A, H0, cells, slots, Qf, hx, hb, hown, hts, hR, hK, hN, hi, hA, hret, rfl⟩ := S
  subst hn
  intro hst hL hσ H locs ls hP hS hl hlen
  simp only [List.forall_mem_cons] at hst
  obtain ⟨h2, h1, hst⟩ := hst
  have hcat : ((st.map (vv ad)).map fun v => v.category).sum = (st.map kcat).sum := by
    rw [List.map_map]; congr 1; apply List.map_congr_left; intro v _; exact vv_cat ad v
  refine va_mmin hx hb (by rw [hl.1]; exact hlen.symm) hown (hts _ hm) (hts _ mj_min_s) (hts _ mj_i) (hts _ mj_min_c) (by omega) (by rw [hcat]; omega) hR.2.2.1 hR.2.2.2 hd ?_
  rw [show (if Int32.ofInt y < Int32.ofInt x then Int32.ofInt y else Int32.ofInt x) = Int32.ofInt (if y < x then y else x) by
    by_cases h : y < x
    · rw [if_pos h, if_pos ((kn_lt h2 h1).mpr h)]
    · rw [if_neg h, if_neg (fun h9 => h ((kn_lt h2 h1).mp h9))]]
  exact k (List.forall_mem_cons.mpr ⟨by split; exact h2; exact h1, hst⟩) hL hσ H locs ls hP hS hl hlen
end KHEAP
