section START
theorem m0_ok : OkM (fun _ _ => 0) := by
  have z : OkR (fun _ => 0) := ⟨by decide, by decide, by decide, fun d d0 d1 => absurd (show d < 0 from d1) (by omega), fun p p0 p1 => absurd (show p < 0 from p1) (by omega)⟩
  exact ⟨z, by decide, fun _ _ => rfl, fun _ _ => rfl, Or.inl rfl, by decide, fun j j0 j1 => absurd (show j < 0 from j1) (by omega), by decide, fun j j0 j1 => absurd (show j < 0 from j1) (by omega)⟩
theorem m0_rc : RC (fun _ _ => 0) (fun _ _ => 0) := by
  have z : RepH (fun _ _ => 0) 1 (fun _ => 0) := ⟨rfl, rfl, rfl, fun d d0 d1 => absurd (show d < 0 from d1) (by omega), fun p p0 p1 => absurd (show p < 0 from p1) (by omega)⟩
  exact ⟨z, fun h => absurd h (by decide), rfl, rfl, fun _ _ _ => rfl, rfl, fun _ _ _ => rfl, fun _ _ _ => rfl⟩
theorem m0_rr : RR (fun _ _ => 0) (fun _ _ => 0) := ⟨rfl, rfl, rfl, rfl, rfl, rfl, rfl, rfl, fun _ _ => rfl, fun _ _ => rfl⟩
theorem kn_on (n : Nat) : Int32.ofNat n = Int32.ofInt (n : Int) := rfl
set_option maxRecDepth 100000 in
/-- the law, its two systems made: at the loop's head -/
theorem law_at {p : Program} {l : Launch} {e : Env} {s : State} {m : MethodId} {below : List Frame} {meth : Method} {c : Code} {b L : Nat} {xs : Nat → Int32} {D : va_G} {cA : ClassId} {H : Heap} {locs : List Loc} {ls : Array Slot} {ad : Nat → Nat} {q0 q38 : Nat} (hL : L ≤ 3072) (C0 : lw_At p s m meth c b L xs) (hK : va_K D vwCl [(cA, .int)] s) (hP : va_P D vwCl (kq_w ad cA (fun _ _ => 0)) H) (hD : va_D (fun q : Nat => s.heap.size ≤ q) (kq_w ad cA (fun _ _ => 0))) (hS : va_S (fun q : Nat => s.heap.size ≤ q) s.heap H locs) (hl : lv_has ls 4 [(3, kz), (2, .ref q38), (1, .ref q0), (0, .ref b)]) (h0 : ad 0 = q0) (h38 : ad 38 = q38) (h48 : ad 48 = b) : W p l e room_1 s m #[Value.ref b] below meth c H locs 48 844 (lw_Z below #[Value.ref b] s) (F0 m 18 ls []) := by
  obtain ⟨hx, hb, hr, hml, hown, hts1, hX, hbl, hlocks, hgv⟩ := id C0
  have hts : ∀ w ∈ kq_tb, w.before #[Value.ref b] s = true := fun w hw => hts1 w (List.mem_filter.mp hw).1
  have hbA : ¬ (fun q : Nat => s.heap.size ≤ q) b := Nat.not_le.mpr hbl
  have hat : ∀ i, i < 48 → ∃ z, (kq_w ad cA (fun _ _ => 0))[i]? = some (ad i, z) := fun i hi => by
    obtain ⟨z, hz⟩ : ∃ z, kq_sh[i]? = some z := ⟨_, List.getElem?_eq_getElem (by rw [kq_sh_len]; exact hi)⟩
    exact ⟨_, kq_w_at hz⟩
  have inj : kq_inj ad := fun i j hi hj h => by
    obtain ⟨z1, e1⟩ := hat i hi
    obtain ⟨z2, e2⟩ := hat j hj
    exact hD.1 i j _ _ e1 e2 h
  have hAd : ∀ k, k < 48 → (fun q : Nat => s.heap.size ≤ q) (ad k) := fun k hk => by
    obtain ⟨z1, e1⟩ := hat k hk
    exact hD.2 k _ e1
  have S : Sem l code RL (some .boolean) 9 334 LwQ (KX l p e room_1 s m #[Value.ref b] below meth c ad cA D (fun q : Nat => s.heap.size ≤ q) s.heap 48 844 (lw_Z below #[Value.ref b] s)) := by
    refine ⟨p, e, room_1, s, m, #[Value.ref b], below, meth, c, ad, cA, D, (fun q : Nat => s.heap.size ≤ q), s.heap, 48, 844, (lw_Z below #[Value.ref b] s), hx, hb, hown, hts, ⟨rfl, rfl, Nat.le_of_ble_eq_true rfl, Nat.le_of_ble_eq_true rfl⟩, hK, ml_X0_49 hts1, inj, hAd, ?_, rfl⟩
    intro r τ pc H locs ls hret hq hvr hvτ hP1 hS1
    have hq : r = some (ki 1) := hq
    subst hq
    refine va_forget (fun q hq => hS1.2.2 q hq) ?_
    have hq1 : ((some (ki 1) : Option KV).map (vv ad)).toList = [Value.int 1] := rfl
    rw [hq1]
    exact lw_ret hx hb hr hlocks hret.1
  have hld : LwL (KX l p e room_1 s m #[Value.ref b] below meth c ad cA D (fun q : Nat => s.heap.size ≤ q) s.heap 48 844 (lw_Z below #[Value.ref b] s)) (fun i => (xs i.toNat).toInt) (L : Int) := by
    intro pc n L' st σ i hd hn hi k
    subst hn
    intro hst hL' hσ H locs ls hP hS hl hlen
    have hii : iv i := hst (ki i) List.mem_cons_self
    have hst2 : ∀ v ∈ st, vok v := fun v hv => hst v (List.mem_cons_of_mem _ (List.mem_cons_of_mem _ hv))
    have hcl : (Int32.ofInt i).toNatClampNeg = i.toNat := by have := kn_cl hii hi.1; omega
    show W p l e room_1 s m #[Value.ref b] below meth c H locs 48 844 (lw_Z below #[Value.ref b] s) (F0 m pc ls (Value.int (Int32.ofInt i) :: Value.ref (ad 48) :: st.map (vv ad)))
    rw [h48]
    refine va_sld hx hb hX hbl hbA hS (kn_in hii hi) hd ?_
    rw [hcl]
    have hk := k (List.forall_mem_cons.mpr ⟨iv_to (xs i.toNat), hst2⟩) hL' hσ H locs ls hP hS hl hlen
    have e9 : vv ad (ki ((fun i : Int => (xs i.toNat).toInt) i)) = Value.int (xs i.toNat) := by
      show Value.int (Int32.ofInt (xs i.toNat).toInt) = _
      rw [Int32.ofInt_toInt]
    rw [List.map_cons, e9] at hk
    exact hk
  have hsl : ∀ (pc n : Nat) (L' : KL) (st : List KV) (σ : KS), decode code pc = .ok (.arraylength, 1) → pc + 1 = n → KX l p e room_1 s m #[Value.ref b] below meth c ad cA D (fun q : Nat => s.heap.size ≤ q) s.heap 48 844 (lw_Z below #[Value.ref b] s) n L' (ki (L : Int) :: st) σ → KX l p e room_1 s m #[Value.ref b] below meth c ad cA D (fun q : Nat => s.heap.size ≤ q) s.heap 48 844 (lw_Z below #[Value.ref b] s) pc L' (kr 48 :: st) σ := by
    intro pc n L' st σ hd hn k
    subst hn
    intro hst hL' hσ H locs ls hP hS hl hlen
    have hst2 : ∀ v ∈ st, vok v := fun v hv => hst v (List.mem_cons_of_mem _ hv)
    show W p l e room_1 s m #[Value.ref b] below meth c H locs 48 844 (lw_Z below #[Value.ref b] s) (F0 m pc ls (Value.ref (ad 48) :: st.map (vv ad)))
    rw [h48]
    refine va_slen hx hb hX hbl hbA hS hd ?_
    exact k (List.forall_mem_cons.mpr ⟨by show iv (L : Int); unfold iv; omega, hst2⟩) hL' hσ H locs ls hP hS hl hlen
  have go := law_loop S hld hsl ⟨by omega, by omega⟩ L 0 (fun _ _ => 0) (fun _ _ => 0) (by omega) (by omega) (by omega) m0_ok m0_rc m0_rr
  refine go (fun v hv => by cases hv) (fun i v hv => ?_) (fun _ _ => iv_0) H locs ls hP hS ⟨hl.1, hl.2.1, fun i v hv => ?_⟩ hml.symm
  · match i, hv with
    | 0, hv => cases hv; trivial
    | 1, hv => cases hv; trivial
    | 2, hv => cases hv; trivial
    | 3, hv => cases hv; exact iv_0
    | i + 4, hv => simp at hv
  · match i, hv with
    | 0, hv =>
      cases hv
      show ls[0]? = some (Slot.val (Value.ref (ad 48)))
      rw [h48]
      exact hl.2.2 (0, .ref b) (by simp)
    | 1, hv =>
      cases hv
      show ls[1]? = some (Slot.val (Value.ref (ad 0)))
      rw [h0]
      exact hl.2.2 (1, .ref q0) (by simp)
    | 2, hv =>
      cases hv
      show ls[2]? = some (Slot.val (Value.ref (ad 38)))
      rw [h38]
      exact hl.2.2 (2, .ref q38) (by simp)
    | 3, hv =>
      cases hv
      exact hl.2.2 (3, kz) (by simp)
    | i + 4, hv => simp at hv
end START
