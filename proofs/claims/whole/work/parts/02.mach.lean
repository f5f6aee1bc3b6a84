/-! THE MACHINE, SEEN THROUGH WHOLE NUMBERS: a state is 'cell, place ↦ number'; every cell of the class and of the reference has a fixed place (kq_sh). A step of the machine is a step over these (ks_ rows); a method's contract is 'Ev'. -/
abbrev KV : Type := Int ⊕ Int ⊕ Nat
abbrev KS : Type := Nat → Int → Int
abbrev KL : Type := List (Option KV)
abbrev ki (x : Int) : KV := Sum.inl x
abbrev kj (x : Int) : KV := Sum.inr (Sum.inl x)
abbrev kr (c : Nat) : KV := Sum.inr (Sum.inr c)
def iv (x : Int) : Prop := -2147483648 ≤ x ∧ x ≤ 2147483647
def jv (x : Int) : Prop := -9223372036854775808 ≤ x ∧ x ≤ 9223372036854775807
def vok (v : KV) : Prop := match v with
  | .inl x => iv x
  | .inr (.inl x) => jv x
  | .inr (.inr _) => True
def vv (ad : Nat → Nat) (v : KV) : Value := match v with
  | .inl x => .int (Int32.ofInt x)
  | .inr (.inl x) => .long (Int64.ofInt x)
  | .inr (.inr c) => .ref (ad c)
def kcat (v : KV) : Nat := match v with
  | .inl _ => 1
  | .inr (.inl _) => 2
  | .inr (.inr _) => 1
theorem vv_cat (ad : Nat → Nat) (v : KV) : (vv ad v).category = kcat v := by
  rcases v with x | x | x <;> rfl
/-- the cells: an array of so many ints, or an object (its class in vwCl; of each field: a number, or which cell it names) -/
def kq_hs (c : Nat) : List (Nat ⊕ (Nat × List (Option Nat))) := [.inr (0, [none, some (c + 1), some (c + 2), some (c + 3), some (c + 4), some (c + 5), some (c + 6), none, some (c + 7), some (c + 8), some (c + 9), none]), .inl 9, .inl 9, .inl 9, .inl 9, .inl 9, .inl 9, .inl 6, .inl 6, .inl 6]
def kq_sh : List (Nat ⊕ (Nat × List (Option Nat))) := [.inr (3, [some 1, some 11, some 21, none, some 31, some 33, some 36, none, some 37])] ++ (kq_hs 1 ++ (kq_hs 11 ++ (kq_hs 21 ++ [.inr (1, [some 32, none]), .inl 96, .inr (2, [some 34, some 35]), .inl 9, .inl 7, .inl 16, .inl 7, .inr (4, [some 39, some 40, some 41, some 42, none, some 43, some 44, some 45, none, none, none, some 46, some 47, none]), .inl 75, .inl 75, .inl 75, .inl 75, .inl 96, .inl 16, .inl 7, .inl 4, .inl 7])))
theorem kq_sh_len : kq_sh.length = 48 := by decide +kernel
def kq_fv (ad : Nat → Nat) (σ : KS) (c k : Nat) (f : Option Nat) : Value := match f with
  | none => .int (Int32.ofInt (σ c (k : Int)))
  | some d => .ref (ad d)
def kq_cell (ad : Nat → Nat) (cA : ClassId) (σ : KS) (c : Nat) (s : Nat ⊕ (Nat × List (Option Nat))) : va_E := match s with
  | .inl n => .inl (cA, n, .inl (fun j : Nat => Int32.ofInt (σ c (j : Int))))
  | .inr o => .inr (o.1, o.2.mapIdx (kq_fv ad σ c))
def kq_w (ad : Nat → Nat) (cA : ClassId) (σ : KS) : va_W := kq_sh.mapIdx (fun c s => (ad c, kq_cell ad cA σ c s))
theorem kq_w_at {ad : Nat → Nat} {cA : ClassId} {σ : KS} {c : Nat} {s : Nat ⊕ (Nat × List (Option Nat))} (h : kq_sh[c]? = some s) : (kq_w ad cA σ)[c]? = some (ad c, kq_cell ad cA σ c s) := by
  simp [kq_w, List.getElem?_mapIdx, h]
theorem kq_w_of {ad : Nat → Nat} {cA : ClassId} {σ : KS} {c : Nat} {q : Nat × va_E} (h : (kq_w ad cA σ)[c]? = some q) : c < 48 ∧ q.1 = ad c := by
  have h1 : c < kq_sh.length := by
    have := (List.getElem?_eq_some_iff.mp h).1
    simpa [kq_w] using this
  rw [kq_sh_len] at h1
  refine ⟨h1, ?_⟩
  simp only [kq_w, List.getElem?_mapIdx] at h
  cases h2 : kq_sh[c]? with
  | none => rw [h2] at h; simp at h
  | some s => rw [h2] at h; simp at h; rw [← h]
def kq_up (σ : KS) (c : Nat) (i v : Int) : KS := fun c' i' => if c' = c ∧ i' = i then v else σ c' i'
theorem kq_up_s {σ : KS} {c : Nat} {i v : Int} : kq_up σ c i v c i = v := by simp [kq_up]
theorem kq_up_c {σ : KS} {c d : Nat} {i j v : Int} (h : d ≠ c) : kq_up σ c i v d j = σ d j := by simp [kq_up, h]
theorem kq_up_i {σ : KS} {c d : Nat} {i j v : Int} (h : j ≠ i) : kq_up σ c i v d j = σ d j := by simp [kq_up, h]
theorem kq_up_of {σ : KS} {c : Nat} {i j v : Int} : kq_up σ c i v c j = if j = i then v else σ c j := by simp [kq_up]
def kq_inj (ad : Nat → Nat) : Prop := ∀ i j, i < 48 → j < 48 → ad i = ad j → i = j
def kq_A (ad : Nat → Nat) : Nat → Prop := fun q => ∃ c, c < 48 ∧ q = ad c
theorem kq_D {ad : Nat → Nat} {cA : ClassId} {σ : KS} {A : Nat → Prop} (hi : kq_inj ad) (hA : ∀ c, c < 48 → A (ad c)) : va_D A (kq_w ad cA σ) := by
  refine ⟨fun i j p q hp hq h => ?_, fun k q hq => ?_⟩
  · obtain ⟨h1, h2⟩ := kq_w_of hp
    obtain ⟨h3, h4⟩ := kq_w_of hq
    exact hi i j h1 h3 (by rw [← h2, ← h4, h])
  · obtain ⟨h1, h2⟩ := kq_w_of hq
    rw [h2]; exact hA k h1
theorem kq_w_set {ad : Nat → Nat} {cA : ClassId} {σ : KS} {c : Nat} {i v : Int} {s : Nat ⊕ (Nat × List (Option Nat))} {q : Nat × va_E} (h : kq_sh[c]? = some s) (hq : q = (ad c, kq_cell ad cA (kq_up σ c i v) c s)) : (kq_w ad cA σ).set c q = kq_w ad cA (kq_up σ c i v) := by
  apply List.ext_getElem?
  intro j
  rw [List.getElem?_set]
  by_cases hj : c = j
  · subst hj
    have hl : c < (kq_w ad cA σ).length := (List.getElem?_eq_some_iff.mp (kq_w_at (ad := ad) (cA := cA) (σ := σ) h)).1
    rw [if_pos rfl, if_pos hl, kq_w_at h, hq]
  · rw [if_neg hj]
    simp only [kq_w, List.getElem?_mapIdx]
    cases h2 : kq_sh[j]? with
    | none => rfl
    | some t =>
      simp only [Option.map_some]
      congr 2
      unfold kq_cell
      have hne : ∀ x : Int, kq_up σ c i v j x = σ j x := fun x => kq_up_c (fun e => hj e.symm)
      cases t with
      | inl n => simp only [hne]
      | inr o =>
        simp only
        congr 2
        apply List.ext_getElem?
        intro k
        simp only [List.getElem?_mapIdx]
        cases o.2[k]? with
        | none => rfl
        | some f => cases f <;> simp [kq_fv, hne]
/-! numbers -/
theorem kn_i {x : Int} (h : iv x) : (Int32.ofInt x).toInt = x := Int32.toInt_ofInt_of_le (by unfold iv at h; omega) (by unfold iv at h; omega)
theorem kn_j {x : Int} (h : jv x) : (Int64.ofInt x).toInt = x := Int64.toInt_ofInt_of_le (by unfold jv at h; omega) (by unfold jv at h; omega)
theorem kn_lt {x y : Int} (hx : iv x) (hy : iv y) : Int32.ofInt x < Int32.ofInt y ↔ x < y := by rw [Int32.lt_iff_toInt_lt, kn_i hx, kn_i hy]
theorem kn_le {x y : Int} (hx : iv x) (hy : iv y) : Int32.ofInt x ≤ Int32.ofInt y ↔ x ≤ y := by rw [Int32.le_iff_toInt_le, kn_i hx, kn_i hy]
theorem kn_eq {x y : Int} (hx : iv x) (hy : iv y) : Int32.ofInt x = Int32.ofInt y ↔ x = y := by rw [← Int32.toInt_inj, kn_i hx, kn_i hy]
theorem kn_0 : (0 : Int32) = Int32.ofInt 0 := by decide
theorem iv_0 : iv 0 := by unfold iv; omega
theorem kn_ii {x : Int32} {y : Int} (h : x.toInt = y) : x = Int32.ofInt y := by rw [← h, Int32.ofInt_toInt]
theorem kn_jj {x : Int64} {y : Int} (h : x.toInt = y) : x = Int64.ofInt y := by rw [← h, Int64.ofInt_toInt]
theorem kn_add (x y : Int) : Int32.ofInt x + Int32.ofInt y = Int32.ofInt (x + y) := (Int32.ofInt_add x y).symm
theorem kn_sub (x y : Int) : Int32.ofInt x - Int32.ofInt y = Int32.ofInt (x - y) := (Int32.ofInt_sub x y).symm
theorem kn_mul (x y : Int) : Int32.ofInt x * Int32.ofInt y = Int32.ofInt (x * y) := (Int32.ofInt_mul x y).symm
theorem kn_addJ (x y : Int) : Int64.ofInt x + Int64.ofInt y = Int64.ofInt (x + y) := (Int64.ofInt_add x y).symm
theorem kn_subJ (x y : Int) : Int64.ofInt x - Int64.ofInt y = Int64.ofInt (x - y) := (Int64.ofInt_sub x y).symm
theorem kn_mulJ (x y : Int) : Int64.ofInt x * Int64.ofInt y = Int64.ofInt (x * y) := (Int64.ofInt_mul x y).symm
def wr (x : Int) : Int := (Int32.ofInt x).toInt
theorem iv_to (x : Int32) : iv x.toInt := ⟨Int32.le_toInt x, by have := Int32.toInt_lt x; omega⟩
theorem jv_to (x : Int64) : jv x.toInt := ⟨Int64.le_toInt x, by have := Int64.toInt_lt x; omega⟩
theorem wr_iv (x : Int) : iv (wr x) := iv_to _
theorem wr_of {x : Int} (h : iv x) : wr x = x := kn_i h
theorem kn_wr (x : Int) : Int32.ofInt (wr x) = Int32.ofInt x := by unfold wr; rw [Int32.ofInt_toInt]
theorem kn_div {x y : Int} (hx : iv x) (hy : iv y) (h0 : 0 ≤ x) (h1 : 0 < y) : Int32.ofInt x / Int32.ofInt y = Int32.ofInt (x / y) := by
  apply kn_ii
  rw [Int32.toInt_div, kn_i hx, kn_i hy, Int.tdiv_eq_ediv_of_nonneg h0]
  have h2 : 0 ≤ x / y := Int.ediv_nonneg h0 (by omega)
  have h3 : x / y ≤ x := Int.ediv_le_self _ h0
  unfold iv at hx
  exact Int.bmod_eq_of_le (by omega) (by omega)
theorem kn_divJ {x y : Int} (hx : jv x) (hy : jv y) (h0 : 0 ≤ x) (h1 : 0 < y) : Int64.ofInt x / Int64.ofInt y = Int64.ofInt (x / y) := by
  apply kn_jj
  rw [Int64.toInt_div, kn_j hx, kn_j hy, Int.tdiv_eq_ediv_of_nonneg h0]
  have h2 : 0 ≤ x / y := Int.ediv_nonneg h0 (by omega)
  have h3 : x / y ≤ x := Int.ediv_le_self _ h0
  unfold jv at hx
  exact Int.bmod_eq_of_le (by omega) (by omega)
theorem kn_rem {x y : Int} (hx : iv x) (hy : iv y) (h0 : 0 ≤ x) (h1 : 0 < y) : Int32.ofInt x - Int32.ofInt x / Int32.ofInt y * Int32.ofInt y = Int32.ofInt (x % y) := by
  rw [kn_div hx hy h0 h1, kn_mul, kn_sub, Int.emod_def, Int.mul_comm y]
theorem kn_remJ {x y : Int} (hx : jv x) (hy : jv y) (h0 : 0 ≤ x) (h1 : 0 < y) : Int64.ofInt x - Int64.ofInt x / Int64.ofInt y * Int64.ofInt y = Int64.ofInt (x % y) := by
  rw [kn_divJ hx hy h0 h1, kn_mulJ, kn_subJ, Int.emod_def, Int.mul_comm y]
def ib_and (x y : Int) : Int := (Int32.ofInt x &&& Int32.ofInt y).toInt
def ib_or (x y : Int) : Int := (Int32.ofInt x ||| Int32.ofInt y).toInt
def ib_xor (x y : Int) : Int := (Int32.ofInt x ^^^ Int32.ofInt y).toInt
def ib_shl (x y : Int) : Int := (Int32.ofInt x <<< (Int32.ofInt y &&& 31)).toInt
def ib_shr (x y : Int) : Int := (Int32.ofInt x >>> (Int32.ofInt y &&& 31)).toInt
def ib_ushr (x y : Int) : Int := ((Int32.ofInt x).toUInt32 >>> ((Int32.ofInt y).toUInt32 &&& Int32.toUInt32 31)).toInt32.toInt
theorem kn_in {i : Int} {n : Nat} (hi : iv i) (h : 0 ≤ i ∧ i < n) : vp_in (Int32.ofInt i) n := by
  rw [vp_in_iff, kn_i hi]; exact h
theorem kn_cl {i : Int} (hi : iv i) (h : 0 ≤ i) : (((Int32.ofInt i).toNatClampNeg : Nat) : Int) = i := by
  have : (Int32.ofInt i).toNatClampNeg = (Int32.ofInt i).toInt.toNat := rfl
  rw [this, kn_i hi]; omega
