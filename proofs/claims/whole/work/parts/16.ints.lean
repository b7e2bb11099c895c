/-! numbers -/
theorem oN (k : Nat) : Int32.ofNat k = nI k := rfl
theorem nI_i1 (k : Nat) : nI k + Int32.ofInt 1 = nI (k + 1) := by rw [← nI_1]; rfl
theorem nI_im1 (k : Nat) : nI (k + 1) + Int32.ofInt (-1) = nI k := by rw [← nI_pred k, Int32.sub_eq_add_neg]; rfl
theorem nI_mul (a b : Nat) : nI a * nI b = nI (a * b) := (Int32.ofNat_mul a b).symm
theorem m30 (r : Nat) : (30 : Int32) * nI r = nI (30 * r) := nI_mul 30 r
theorem m11 (r : Nat) : (11 : Int32) * nI r = nI (11 * r) := nI_mul 11 r
theorem m6 (r : Nat) : (6 : Int32) * nI r = nI (6 * r) := nI_mul 6 r
theorem m4 (r : Nat) : (4 : Int32) * nI r = nI (4 * r) := nI_mul 4 r
theorem p1 (r : Nat) : nI r + 1 = nI (r + 1) := nI_add r 1
theorem p2 (r : Nat) : nI r + 2 = nI (r + 2) := nI_add r 2
theorem p3 (r : Nat) : nI r + 3 = nI (r + 3) := nI_add r 3
theorem p4 (r : Nat) : nI r + 4 = nI (r + 4) := nI_add r 4
theorem p5 (r : Nat) : nI r + 5 = nI (r + 5) := nI_add r 5
theorem p6 (r : Nat) : nI r + 6 = nI (r + 6) := nI_add r 6
theorem p7 (r : Nat) : nI r + 7 = nI (r + 7) := nI_add r 7
theorem p8 (r : Nat) : nI r + 8 = nI (r + 8) := nI_add r 8
theorem p9 (r : Nat) : nI r + 9 = nI (r + 9) := nI_add r 9
theorem p10 (r : Nat) : nI r + 10 = nI (r + 10) := nI_add r 10
theorem p11 (r : Nat) : nI r + 11 = nI (r + 11) := nI_add r 11
theorem p440 (r : Nat) : (440 : Int32) + nI r = nI (440 + r) := nI_add 440 r
theorem lit (k : Nat) : (OfNat.ofNat k : Int32) = nI k := rfl
theorem nI_sub {a b : Nat} (h : b ≤ a) : nI a - nI b = nI (a - b) := (Int32.ofNat_sub a b h).symm
theorem vin {k n : Nat} (h : k < n) (hn : n < 2147483648) : vp_in (nI k) n := vp_in_nI h (by omega)
theorem cl {k : Nat} (h : k < 2147483648) : (nI k).toNatClampNeg = k := nI_clamp (by omega)
theorem cll (k : Nat) (h : k < 2147483648) : (OfNat.ofNat k : Int32).toNatClampNeg = k := nI_clamp (n := k) (by omega)
theorem vil {k n : Nat} (h : k < n) (hn : n < 2147483648) : vp_in (OfNat.ofNat k) n := vp_in_nI h (by omega)
theorem nlt {a b : Nat} (ha : a < 2147483648) (hb : b < 2147483648) : nI a < nI b ↔ a < b := nI_ltI (by omega) (by omega)
theorem nle {a b : Nat} (ha : a < 2147483648) (hb : b < 2147483648) : nI a ≤ nI b ↔ a ≤ b := nI_leI (by omega) (by omega)
theorem neq {a b : Nat} (ha : a < 2147483648) (hb : b < 2147483648) : nI a = nI b ↔ a = b := nI_eq (by omega) (by omega)
