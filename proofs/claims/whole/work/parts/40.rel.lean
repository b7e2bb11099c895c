/-! the class's cells and the reference's memory D, side by side -/
def aR (b n r : Nat) : Nat := b + 4 + r * (6 * n + 6)
theorem aR_inj {b n r r' x y : Nat} (hn : n = 3 ∨ n = 5) (hx : x < 6 * n + 6) (hy : y < 6 * n + 6) (h : aR b n r + x = aR b n r' + y) : r = r' ∧ x = y := by
  unfold aR at h
  rcases hn with rfl | rfl <;> constructor <;> omega
theorem aR_lo (b n r : Nat) : b + 4 ≤ aR b n r := by unfold aR; omega
theorem aR_hi {b n r x : Nat} (hn : n = 3 ∨ n = 5) (hr : r < n) (hx : x < 6 * n + 6) : aR b n r + x < b + 4 + n * (6 * n + 6) := by
  unfold aR
  rcases hn with rfl | rfl <;> omega
/-- a command: the reference's number for it, and its new value if it puts -/
def CmdOK (M : me_M) (q : Nat) (cd vl : Int32) : Prop := mKd M q = 7 ∧ ∃ key : Nat, key < 4 ∧ mI M 1385 q 0 = nI key ∧ ((mI M 1384 q 0 = 0 ∧ cd = nI key) ∨ (mI M 1384 q 0 = 1 ∧ cd = nI (4 + key) ∧ mI M 1386 q 0 = vl) ∨ (mI M 1384 q 0 = 2 ∧ cd = 8))
def OrdOK (M : me_M) (q : Nat) (cd vl sq dp : Int32) : Prop := mKd M q = 8 ∧ mI M 1449 q 0 = sq ∧ mI M 1450 q 0 = dp ∧ ∃ c, mR M 1448 q 0 = some c ∧ CmdOK M c cd vl
def OrdR (M : me_M) (o : Option Nat) (cd vl sq dp : Int32) : Prop := ∃ q, o = some q ∧ OrdOK M q cd vl sq dp
def RptOK (M : me_M) (q : Nat) (fr st cd vl sq dp vt : Int32) : Prop := mKd M q = 9 ∧ mI M 1512 q 0 = fr ∧ mI M 1513 q 0 = st ∧ mI M 1515 q 0 = vt ∧ (¬ st = 0 → OrdR M (mR M 1514 q 0) cd vl sq dp)
def MsgOK (M : me_M) (q : Nat) (K : Nat → Int32) : Prop := mKd M q = 10 ∧ mI M 1576 q 0 = K 0 ∧ mI M 1577 q 0 = K 1 ∧ mI M 1578 q 0 = K 2 ∧ mI M 1579 q 0 = K 3 ∧ (¬ K 0 = 4 → mI M 1580 q 0 = K 4) ∧
  ((K 0 = 0 ∨ K 0 = 1 ∨ K 0 = 2 ∨ K 0 = 4) → OrdR M (mR M 1581 q 0) (K 5) (K 6) (K 7) (K 8)) ∧ (K 0 = 6 → ∃ p, mR M 1582 q 0 = some p ∧ RptOK M p (K 1) (K 9) (K 5) (K 6) (K 7) (K 8) (K 10))
def EntOK (M : me_M) (q : Nat) (D : me_D) (a : Nat) : Prop := mI M 1192 q 0 = D 4 a ∧ mI M 1194 q 0 = D 9 a ∧ mI M 1195 q 0 = D 10 a ∧ mI M 1196 q 0 = D 12 a ∧ mI M 1197 q 0 = D 11 a ∧
  (D 4 a = 0 → mR M 1193 q 0 = none) ∧ (¬ D 4 a = 0 → OrdR M (mR M 1193 q 0) (D 5 a) (D 6 a) (D 7 a) (D 8 a))
