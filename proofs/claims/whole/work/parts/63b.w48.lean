section W48
set_option maxRecDepth 100000 in
theorem w48 (ad : Nat → Nat) (cA : ClassId) : kq_w ad cA (fun _ _ => 0) = [(ad 0, .inr (3, [.ref (ad 1), .ref (ad 11), .ref (ad 21), kz, .ref (ad 31), .ref (ad 33), .ref (ad 36), kz, .ref (ad 37)])), ((ad 1), .inr (0, [kz, .ref (ad 2), .ref (ad 3), .ref (ad 4), .ref (ad 5), .ref (ad 6), .ref (ad 7), kz, .ref (ad 8), .ref (ad 9), .ref (ad 10), kz])), ((ad 2), ka cA 9), ((ad 3), ka cA 9), ((ad 4), ka cA 9), ((ad 5), ka cA 9), ((ad 6), ka cA 9), ((ad 7), ka cA 9), ((ad 8), ka cA 6), ((ad 9), ka cA 6), ((ad 10), ka cA 6), ((ad 11), .inr (0, [kz, .ref (ad 12), .ref (ad 13), .ref (ad 14), .ref (ad 15), .ref (ad 16), .ref (ad 17), kz, .ref (ad 18), .ref (ad 19), .ref (ad 20), kz])), ((ad 12), ka cA 9), ((ad 13), ka cA 9), ((ad 14), ka cA 9), ((ad 15), ka cA 9), ((ad 16), ka cA 9), ((ad 17), ka cA 9), ((ad 18), ka cA 6), ((ad 19), ka cA 6), ((ad 20), ka cA 6), ((ad 21), .inr (0, [kz, .ref (ad 22), .ref (ad 23), .ref (ad 24), .ref (ad 25), .ref (ad 26), .ref (ad 27), kz, .ref (ad 28), .ref (ad 29), .ref (ad 30), kz])), ((ad 22), ka cA 9), ((ad 23), ka cA 9), ((ad 24), ka cA 9), ((ad 25), ka cA 9), ((ad 26), ka cA 9), ((ad 27), ka cA 9), ((ad 28), ka cA 6), ((ad 29), ka cA 6), ((ad 30), ka cA 6), ((ad 31), .inr (1, [.ref (ad 32), kz])), ((ad 32), ka cA 96), ((ad 33), .inr (2, [.ref (ad 34), .ref (ad 35)])), ((ad 34), ka cA 9), ((ad 35), ka cA 7), ((ad 36), ka cA 16), ((ad 37), ka cA 7), ((ad 38), .inr (4, [.ref (ad 39), .ref (ad 40), .ref (ad 41), .ref (ad 42), kz, .ref (ad 43), .ref (ad 44), .ref (ad 45), kz, kz, kz, .ref (ad 46), .ref (ad 47), kz])), ((ad 39), ka cA 75), ((ad 40), ka cA 75), ((ad 41), ka cA 75), ((ad 42), ka cA 75), ((ad 43), ka cA 96), ((ad 44), ka cA 16), ((ad 45), ka cA 7), ((ad 46), ka cA 4), ((ad 47), ka cA 7)] := by
  apply List.ext_getElem?
  intro i
  match i with
  | 0 => exact (kq_w_at (c := 0) rfl).trans rfl
  | 1 => exact (kq_w_at (c := 1) rfl).trans rfl
  | 2 => exact (kq_w_at (c := 2) rfl).trans rfl
  | 3 => exact (kq_w_at (c := 3) rfl).trans rfl
  | 4 => exact (kq_w_at (c := 4) rfl).trans rfl
  | 5 => exact (kq_w_at (c := 5) rfl).trans rfl
  | 6 => exact (kq_w_at (c := 6) rfl).trans rfl
  | 7 => exact (kq_w_at (c := 7) rfl).trans rfl
  | 8 => exact (kq_w_at (c := 8) rfl).trans rfl
  | 9 => exact (kq_w_at (c := 9) rfl).trans rfl
  | 10 => exact (kq_w_at (c := 10) rfl).trans rfl
  | 11 => exact (kq_w_at (c := 11) rfl).trans rfl
  | 12 => exact (kq_w_at (c := 12) rfl).trans rfl
  | 13 => exact (kq_w_at (c := 13) rfl).trans rfl
  | 14 => exact (kq_w_at (c := 14) rfl).trans rfl
  | 15 => exact (kq_w_at (c := 15) rfl).trans rfl
  | 16 => exact (kq_w_at (c := 16) rfl).trans rfl
  | 17 => exact (kq_w_at (c := 17) rfl).trans rfl
  | 18 => exact (kq_w_at (c := 18) rfl).trans rfl
  | 19 => exact (kq_w_at (c := 19) rfl).trans rfl
  | 20 => exact (kq_w_at (c := 20) rfl).trans rfl
  | 21 => exact (kq_w_at (c := 21) rfl).trans rfl
  | 22 => exact (kq_w_at (c := 22) rfl).trans rfl
  | 23 => exact (kq_w_at (c := 23) rfl).trans rfl
  | 24 => exact (kq_w_at (c := 24) rfl).trans rfl
  | 25 => exact (kq_w_at (c := 25) rfl).trans rfl
  | 26 => exact (kq_w_at (c := 26) rfl).trans rfl
  | 27 => exact (kq_w_at (c := 27) rfl).trans rfl
  | 28 => exact (kq_w_at (c := 28) rfl).trans rfl
  | 29 => exact (kq_w_at (c := 29) rfl).trans rfl
  | 30 => exact (kq_w_at (c := 30) rfl).trans rfl
  | 31 => exact (kq_w_at (c := 31) rfl).trans rfl
  | 32 => exact (kq_w_at (c := 32) rfl).trans rfl
  | 33 => exact (kq_w_at (c := 33) rfl).trans rfl
  | 34 => exact (kq_w_at (c := 34) rfl).trans rfl
  | 35 => exact (kq_w_at (c := 35) rfl).trans rfl
  | 36 => exact (kq_w_at (c := 36) rfl).trans rfl
  | 37 => exact (kq_w_at (c := 37) rfl).trans rfl
  | 38 => exact (kq_w_at (c := 38) rfl).trans rfl
  | 39 => exact (kq_w_at (c := 39) rfl).trans rfl
  | 40 => exact (kq_w_at (c := 40) rfl).trans rfl
  | 41 => exact (kq_w_at (c := 41) rfl).trans rfl
  | 42 => exact (kq_w_at (c := 42) rfl).trans rfl
  | 43 => exact (kq_w_at (c := 43) rfl).trans rfl
  | 44 => exact (kq_w_at (c := 44) rfl).trans rfl
  | 45 => exact (kq_w_at (c := 45) rfl).trans rfl
  | 46 => exact (kq_w_at (c := 46) rfl).trans rfl
  | 47 => exact (kq_w_at (c := 47) rfl).trans rfl
  | i + 48 =>
    rw [List.getElem?_eq_none (by simp [kq_w, kq_sh_len])]
    rfl
end W48
