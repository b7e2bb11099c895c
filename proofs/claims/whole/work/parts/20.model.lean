/-! the reference as functions of its memory D: D j i is element i of its j-th array, D (a field's key) 0 a number -/
abbrev me_D : Type := Nat → Nat → Int32
def dU (D : me_D) (j i : Nat) (v : Int32) : me_D := fun j' i' => if j' = j ∧ i' = i then v else D j' i'
theorem dU_at (D : me_D) (j i : Nat) (v : Int32) (j' i' : Nat) : dU D j i v j' i' = if j' = j ∧ i' = i then v else D j' i' := rfl
theorem dU_ne (D : me_D) {j i : Nat} {v : Int32} {j' i' : Nat} (h : ¬ j' = j) : dU D j i v j' i' = D j' i' := if_neg fun z => h z.1
theorem dU_nei (D : me_D) {j i : Nat} {v : Int32} {j' i' : Nat} (h : ¬ i' = i) : dU D j i v j' i' = D j' i' := if_neg fun z => h z.2
theorem dU_eq (D : me_D) {j i : Nat} {v : Int32} : dU D j i v j i = v := if_pos ⟨rfl, rfl⟩
def g_int (c d : Int32) : Bool := decide (c = 8) || decide (d = 8) || (decide (c &&& 3 = d &&& 3) && (decide (4 ≤ c) || decide (4 ≤ d)))
def g_rel (D : me_D) (r i j : Nat) (c : Int32) : Bool := decide (¬ j = i) && decide (¬ D 4 (30 * r + j) = 0) && g_int (D 5 (30 * r + j)) c
def g_fitU (D : me_D) (r i : Nat) (c s d : Int32) : Nat → Int32 × Int32
  | 0 => (s, d)
  | j + 1 => if g_rel D r i j c = true then (if D 7 (30 * r + j) < (g_fitU D r i c s d j).1 then (g_fitU D r i c s d j).1 else D 7 (30 * r + j) + 1, (g_fitU D r i c s d j).2 ||| (1 <<< (nI j &&& 31))) else g_fitU D r i c s d j
def g_put (D : me_D) (a : Nat) (w c v : Int32) : me_D := dU (dU (dU D 4 a w) 5 a c) 6 a v
def g_fit (D : me_D) (n r i : Nat) (c v s d : Int32) : me_D := dU (dU (g_put D (30 * r + i) 1 c v) 7 (30 * r + i) (g_fitU D r i c s d (6 * n)).1) 8 (30 * r + i) (g_fitU D r i c s d (6 * n)).2
def g_un (D : me_D) : Nat := (D 1666 0).toNatClampNeg
def g_mail (D : me_D) (k : Nat) (kind fr to i b : Int32) (a : Nat) : me_D :=
  dU (dU (dU (dU (dU (dU (dU (dU (dU (dU (dU D 24 (11 * k) kind) 24 (11 * k + 1) fr) 24 (11 * k + 2) to) 24 (11 * k + 3) i) 24 (11 * k + 4) b) 24 (11 * k + 5) (D 5 a)) 24 (11 * k + 6) (D 6 a)) 24 (11 * k + 7) (D 7 a)) 24 (11 * k + 8) (D 8 a)) 24 (11 * k + 9) (D 4 a)) 24 (11 * k + 10) (D 10 a)
def g_send (D : me_D) (kind : Int32) (fr to i : Nat) (b : Int32) : me_D :=
  if D 1666 0 = 40 then dU D 1667 0 (D 1667 0 + 1) else dU (g_mail D (g_un D) kind (nI fr) (nI to) (nI i) b (30 * fr + i)) 1666 0 (D 1666 0 + 1)
def g_allU (D : me_D) (kind : Int32) (fr i : Nat) (b : Int32) : Nat → me_D
  | 0 => D
  | t + 1 => if t = fr then g_allU D kind fr i b t else g_send (g_allU D kind fr i b t) kind fr t i b
def g_all (D : me_D) (n : Nat) (kind : Int32) (fr i : Nat) (b : Int32) : me_D := g_allU D kind fr i b n
def g_cpU (D : me_D) (k : Nat) : Nat → me_D
  | 0 => D
  | c + 1 => dU (g_cpU D k c) 24 (440 + c) (g_cpU D k c 24 (11 * k + c))
def g_shU (D : me_D) (k : Nat) : Nat → me_D
  | 0 => D
  | c + 1 => dU (g_shU D k c) 24 (11 * k + c) (g_shU D k c 24 (11 * k + c + 11))
def g_take (D : me_D) (k : Nat) : me_D := dU (g_shU (g_cpU D k 11) k (11 * (g_un D - 1 - k))) 1666 0 (D 1666 0 - 1)
def g_start (D : me_D) (a : Nat) (w b : Int32) : me_D := dU (dU (dU (dU D 13 a 1) 14 a w) 15 a b) 16 a 0
def g_preaccept (D : me_D) (n r fr i : Nat) : me_D :=
  if D 24 444 < D 9 (30 * r + i) ∨ (D 4 (30 * r + i) = 2 ∧ D 10 (30 * r + i) = D 24 444) then D else
    g_send (g_fit (dU (dU D 9 (30 * r + i) (D 24 444)) 10 (30 * r + i) (D 24 444)) n r i (D 24 445) (D 24 446) (D 24 447) (D 24 448)) 1 r fr i (D 24 444)
def g_settle (D : me_D) (a : Nat) (w : Int32) : me_D := dU (dU (g_put D a w (D 24 445) (D 24 446)) 7 a (D 24 447)) 8 a (D 24 448)
def g_accept (D : me_D) (r fr i : Nat) : me_D :=
  if D 24 444 < D 9 (30 * r + i) then D else
    g_send (g_settle (dU (dU D 9 (30 * r + i) (D 24 444)) 10 (30 * r + i) (D 24 444)) (30 * r + i) 2) 3 r fr i (D 24 444)
def g_asked (D : me_D) (r fr i : Nat) : me_D :=
  if D 24 444 ≤ D 9 (30 * r + i) then D else g_send (dU D 9 (30 * r + i) (D 24 444)) 6 r fr i (D 24 444)
/-- does a reply count, for a phase -/
def g_cnt (D : me_D) (a : Nat) (w : Int32) : Prop := ¬ D 13 a = 0 ∧ D 15 a = D 9 a ∧ D 4 a < 3 ∧ (D 14 a = w ∨ (w = 1 ∧ D 14 a = 0)) ∧ D 15 a = D 24 444 ∧ D 16 a ≤ 3
def g_cnt? (D : me_D) (a : Nat) (w : Int32) : Bool := decide (¬ D 13 a = 0) && decide (D 15 a = D 9 a) && decide (D 4 a < 3) && (decide (D 14 a = w) || (decide (w = 1) && decide (D 14 a = 0))) && decide (D 15 a = D 24 444) && decide (D 16 a ≤ 3)
def g_ct (D : me_D) (a : Nat) : Nat := (D 16 a).toNatClampNeg
def g_log (D : me_D) (a : Nat) : me_D :=
  dU (dU (dU (dU (dU (dU (dU (dU D 17 (4 * a + g_ct D a) (D 24 441)) 19 (4 * a + g_ct D a) (D 24 445)) 20 (4 * a + g_ct D a) (D 24 446)) 21 (4 * a + g_ct D a) (D 24 447)) 22 (4 * a + g_ct D a) (D 24 448)) 18 (4 * a + g_ct D a) (D 24 449)) 23 (4 * a + g_ct D a) (D 24 450)) 16 a (D 16 a + 1)
/-- alike, most, set after so many replies -/
def g_apU (D : me_D) (a : Nat) : Nat → Bool × Int32 × Int32
  | 0 => (true, D 21 (4 * a), 0)
  | k + 1 => ((g_apU D a k).1 && decide (D 21 (4 * a + k) = D 21 (4 * a)) && decide (D 22 (4 * a + k) = D 22 (4 * a)), if D 21 (4 * a + k) ≤ (g_apU D a k).2.1 then (g_apU D a k).2.1 else D 21 (4 * a + k), (g_apU D a k).2.2 ||| D 22 (4 * a + k))
def g_agree (D : me_D) (n r i : Nat) (c v s d : Int32) : me_D :=
  g_all (g_start (dU (dU (dU (g_put D (30 * r + i) 2 c v) 7 (30 * r + i) s) 8 (30 * r + i) d) 10 (30 * r + i) (D 15 (30 * r + i))) (30 * r + i) 2 (D 15 (30 * r + i))) n 2 r i (D 15 (30 * r + i))
def g_finish (D : me_D) (n r i : Nat) (s d : Int32) : me_D := g_all (dU (dU (dU D 4 (30 * r + i) 3) 7 (30 * r + i) s) 8 (30 * r + i) d) n 4 r i 0
def g_afterPre (D : me_D) (n r i : Nat) : me_D :=
  let p := g_apU D (30 * r + i) (g_ct D (30 * r + i))
  if D 14 (30 * r + i) = 0 ∧ p.1 = true then (if D 16 (30 * r + i) = nI n - 2 then g_finish D n r i p.2.1 p.2.2 else D)
  else if D 1641 0 ≤ D 16 (30 * r + i) then g_agree D n r i (D 5 (30 * r + i)) (D 6 (30 * r + i)) p.2.1 p.2.2 else D
/-- the last accepted with the greatest ballot among so many from a place on -/
def g_accU (D : me_D) (a : Nat) : Nat → Option Nat
  | 0 => none
  | k + 1 => if D 18 (a + k) = 2 ∧ (match g_accU D a k with | none => true | some b => decide (¬ D 23 (a + k) ≤ D 23 b)) = true then some (a + k) else g_accU D a k
def g_plain (D : me_D) (k i : Nat) : Bool := decide (D 18 k = 1) && decide (D 23 k = 0) && decide (¬ D 17 k = nI (i / 6))
def g_sameU (D : me_D) (a i k : Nat) : Nat → Int32
  | 0 => 0
  | q + 1 => if g_plain D k i = true ∧ g_plain D (a + q) i = true ∧ D 21 (a + q) = D 21 k ∧ D 22 (a + q) = D 22 k then g_sameU D a i k q + 1 else g_sameU D a i k q
/-- the first among 'many' places from a on for which P holds, tried from the j-th on -/
def g_firstU (P : Nat → Bool) (a : Nat) : Nat → Nat → Option Nat
  | 0, _ => none
  | k + 1, j => if P (a + j) = true then some (a + j) else g_firstU P a k (j + 1)
def g_common (D : me_D) (a many i : Nat) : Option Nat := g_firstU (fun k => decide (D 1641 0 ≤ g_sameU D a i k many)) a many 0
def g_pre (D : me_D) (a many : Nat) : Option Nat := g_firstU (fun k => decide (D 18 k = 1)) a many 0
def g_own (D : me_D) (r a c : Nat) : me_D :=
  dU (dU (dU (dU (dU (dU (dU D 17 (4 * a + c) (nI r)) 19 (4 * a + c) (D 5 a)) 20 (4 * a + c) (D 6 a)) 21 (4 * a + c) (D 7 a)) 22 (4 * a + c) (D 8 a)) 18 (4 * a + c) (D 4 a)) 23 (4 * a + c) (D 10 a)
def g_best (D : me_D) (a many i : Nat) : Option Nat := match g_accU D a many with
  | some b => some b
  | none => g_common D a many i
def g_again (D : me_D) (n r i : Nat) (c v : Int32) : me_D :=
  g_all (g_start (dU (g_fit D n r i c v 1 0) 10 (30 * r + i) (D 15 (30 * r + i))) (30 * r + i) 1 (D 15 (30 * r + i))) n 0 r i (D 15 (30 * r + i))
def g_afterPromise (D : me_D) (n r i : Nat) : me_D :=
  let E := g_own D r (30 * r + i) (g_ct D (30 * r + i))
  match g_best E (4 * (30 * r + i)) (n / 2 + 1) i with
  | some b => g_agree E n r i (E 19 b) (E 20 b) (E 21 b) (E 22 b)
  | none => match g_pre E (4 * (30 * r + i)) (n / 2 + 1) with
    | none => g_agree E n r i 8 0 0 0
    | some b => g_again E n r i (E 19 b) (E 20 b)
def g_receive (D : me_D) (n : Nat) (kind : Int32) (r fr i : Nat) : me_D :=
  if (kind = 0 ∨ kind = 2 ∨ kind = 5) ∧ 3 ≤ D 4 (30 * r + i) then g_send D 4 r fr i 0
  else if kind = 0 then g_preaccept D n r fr i
  else if kind = 2 then g_accept D r fr i
  else if kind = 5 then g_asked D r fr i
  else if kind = 4 then (if D 4 (30 * r + i) < 3 then g_settle D (30 * r + i) 3 else D)
  else if kind = 1 then (if g_cnt? D (30 * r + i) 1 = true then g_afterPre (g_log D (30 * r + i)) n r i else D)
  else if kind = 3 then (if g_cnt? D (30 * r + i) 2 = true then (if D 16 (30 * r + i) + 1 = D 1641 0 then g_finish (g_log D (30 * r + i)) n r i (D 7 (30 * r + i)) (D 8 (30 * r + i)) else g_log D (30 * r + i)) else D)
  else if kind = 6 then (if g_cnt? D (30 * r + i) 3 = true then (if D 16 (30 * r + i) + 1 = D 1641 0 then g_afterPromise (g_log D (30 * r + i)) n r i else g_log D (30 * r + i)) else D)
  else D
def g_nat (D : me_D) (j i : Nat) : Nat := (D j i).toNatClampNeg
def g_deliver (D : me_D) (n k : Nat) : me_D :=
  let E := g_take D k
  if E 1 (g_nat E 24 442) = 0 then g_receive E n (E 24 440) (g_nat E 24 442) (g_nat E 24 441) (g_nat E 24 443) else E
/-- a free own instance, tried from the j-th on -/
def g_freeU (D : me_D) (r : Nat) : Nat → Nat → Option Nat
  | 0, _ => none
  | k + 1, j => if D 4 (30 * r + (6 * r + j)) = 0 ∧ D 9 (30 * r + (6 * r + j)) = 0 then some (6 * r + j) else g_freeU D r k (j + 1)
def g_firstsU (D : me_D) (n r i : Nat) : Nat → me_D
  | 0 => D
  | k + 1 => g_send (g_firstsU D n r i k) 0 r ((r + (k + 1)) % n) i 0
def g_begin (D : me_D) (n r i : Nat) (key : Nat) (put : Bool) (v : Int32) : me_D :=
  g_firstsU (g_start (g_fit D n r i (nI (if put = true then 4 + key else key)) (if put = true then v else 0) 1 0) (30 * r + i) 0 0) n r i (n - 2)
def g_ballotU (n r : Nat) : Nat → Nat → Nat
  | 0, b => b
  | k + 1, b => if b % n = r then b else g_ballotU n r k (b + 1)
def g_ballot (D : me_D) (n r i : Nat) : Int32 := nI (g_ballotU n r n (g_nat D 9 (30 * r + i) + 1))
def g_prepare (D : me_D) (n r i : Nat) : me_D := g_all (g_start (dU D 9 (30 * r + i) (g_ballot D n r i)) (30 * r + i) 3 (g_ballot D n r i)) n 5 r i (g_ballot D n r i)
def g_manyU (D : me_D) : Nat → Int32
  | 0 => 0
  | k + 1 => g_manyU D k + (if D 1 k = 0 then 0 else 1)
