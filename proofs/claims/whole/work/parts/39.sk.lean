/-! the skeleton -/
def mutK (k : Nat) : Bool := decide (k = 100) || decide (k = 102) || decide (k = 105) || decide (k = 106) || decide (k = 1004) || decide (k = 1065) || decide (k = 1066) || decide (k = 1135) || (decide (1192 ≤ k) && decide (k ≤ 1197)) || decide (k = 1258) || decide (k = 1259) || (decide (1323 ≤ k) && decide (k ≤ 1327))
/-- P holds of what may change alone -/
def mutP (P : Nat → Nat → Prop) : Prop := ∀ k q, P k q → mutK k = true
theorem mutP.no {P : Nat → Nat → Prop} (h : mutP P) {k q : Nat} (hk : mutK k = false) : ¬ P k q := fun z => by rw [h k q z] at hk; cases hk
theorem mutP.imm {P : Nat → Nat → Prop} (h : mutP P) : imm P := by
  intro k q h1 h2 hz
  have := h k q hz
  unfold mutK at this
  simp only [Bool.or_eq_true, Bool.and_eq_true, decide_eq_true_eq] at this
  omega
def skR (M : me_M) (b n r : Nat) : Prop := mR M 103 (b + 3) r = some (aR b n r) ∧ (∀ i, i < 6 * n → mR M 104 (aR b n r + 1) i = some (aR b n r + 2 + i) ∧ mKd M (aR b n r + 2 + i) = 4) ∧ mKd M (aR b n r) = 3 ∧ mI M 1128 (aR b n r) 0 = nI r ∧ mI M 1129 (aR b n r) 0 = nI n ∧ mI M 1130 (aR b n r) 0 = nI (n / 2) ∧ mR M 1131 (aR b n r) 0 = some (b + 1) ∧ mR M 1132 (aR b n r) 0 = some (aR b n r + 1) ∧ mR M 1133 (aR b n r) 0 = some (aR b n r + 2 + 6 * n) ∧ mR M 1134 (aR b n r) 0 = some (aR b n r + 3 + 6 * n) ∧ mKd M (aR b n r + 1) = 104 ∧ mLn M (aR b n r + 1) = 6 * n ∧ mKd M (aR b n r + 2 + 6 * n) = 105 ∧ mLn M (aR b n r + 2 + 6 * n) = 6 * n ∧ mKd M (aR b n r + 3 + 6 * n) = 5 ∧ mR M 1256 (aR b n r + 3 + 6 * n) 0 = some (aR b n r + 4 + 6 * n) ∧ mR M 1257 (aR b n r + 3 + 6 * n) 0 = some (aR b n r + 5 + 6 * n) ∧ mKd M (aR b n r + 4 + 6 * n) = 100 ∧ mLn M (aR b n r + 4 + 6 * n) = 4 ∧ mKd M (aR b n r + 5 + 6 * n) = 100 ∧ mLn M (aR b n r + 5 + 6 * n) = 6 * n
def skel (M : me_M) (b n : Nat) : Prop := (∀ r, r < n → skR M b n r) ∧ mKd M b = 1 ∧ mI M 1000 b 0 = nI n ∧ mI M 1001 b 0 = nI (n / 2) ∧ mR M 1002 b 0 = some (b + 1) ∧ mR M 1003 b 0 = some (b + 3) ∧ mKd M (b + 1) = 2 ∧ mR M 1064 (b + 1) 0 = some (b + 2) ∧ mKd M (b + 2) = 102 ∧ mLn M (b + 2) = 40 ∧ mKd M (b + 3) = 103 ∧ mLn M (b + 3) = n
section SK
variable {M N : me_M} {b n r i c : Nat} {P : Nat → Nat → Prop}
theorem s_kLM (S : skel M b n) : mKd M b = 1 := S.2.1
theorem s_size (S : skel M b n) : mI M 1000 b 0 = nI n := S.2.2.1
theorem s_faults (S : skel M b n) : mI M 1001 b 0 = nI (n / 2) := S.2.2.2.1
theorem s_net (S : skel M b n) : mR M 1002 b 0 = some (b + 1) := S.2.2.2.2.1
theorem s_reps (S : skel M b n) : mR M 1003 b 0 = some (b + 3) := S.2.2.2.2.2.1
theorem s_kNet (S : skel M b n) : mKd M (b + 1) = 2 := S.2.2.2.2.2.2.1
theorem s_line (S : skel M b n) : mR M 1064 (b + 1) 0 = some (b + 2) := S.2.2.2.2.2.2.2.1
theorem s_kLine (S : skel M b n) : mKd M (b + 2) = 102 := S.2.2.2.2.2.2.2.2.1
theorem s_lLine (S : skel M b n) : mLn M (b + 2) = 40 := S.2.2.2.2.2.2.2.2.2.1
theorem s_kReps (S : skel M b n) : mKd M (b + 3) = 103 := S.2.2.2.2.2.2.2.2.2.2.1
theorem s_lReps (S : skel M b n) : mLn M (b + 3) = n := S.2.2.2.2.2.2.2.2.2.2.2
theorem s_rep (S : skel M b n) (hr : r < n) : mR M 103 (b + 3) r = some (aR b n r) := (S.1 r hr).1
theorem s_ent (S : skel M b n) (hr : r < n) (hi : i < 6 * n) : mR M 104 (aR b n r + 1) i = some (aR b n r + 2 + i) := ((S.1 r hr).2.1 i hi).1
theorem s_kEnt (S : skel M b n) (hr : r < n) (hi : i < 6 * n) : mKd M (aR b n r + 2 + i) = 4 := ((S.1 r hr).2.1 i hi).2
theorem s_kRp (S : skel M b n) (hr : r < n) : mKd M (aR b n r) = 3 := (S.1 r hr).2.2.1
theorem s_num (S : skel M b n) (hr : r < n) : mI M 1128 (aR b n r) 0 = nI r := (S.1 r hr).2.2.2.1
theorem s_rsz (S : skel M b n) (hr : r < n) : mI M 1129 (aR b n r) 0 = nI n := (S.1 r hr).2.2.2.2.1
theorem s_rfa (S : skel M b n) (hr : r < n) : mI M 1130 (aR b n r) 0 = nI (n / 2) := (S.1 r hr).2.2.2.2.2.1
theorem s_rnet (S : skel M b n) (hr : r < n) : mR M 1131 (aR b n r) 0 = some (b + 1) := (S.1 r hr).2.2.2.2.2.2.1
theorem s_ents (S : skel M b n) (hr : r < n) : mR M 1132 (aR b n r) 0 = some (aR b n r + 1) := (S.1 r hr).2.2.2.2.2.2.2.1
theorem s_atts (S : skel M b n) (hr : r < n) : mR M 1133 (aR b n r) 0 = some (aR b n r + 2 + 6 * n) := (S.1 r hr).2.2.2.2.2.2.2.2.1
theorem s_sto (S : skel M b n) (hr : r < n) : mR M 1134 (aR b n r) 0 = some (aR b n r + 3 + 6 * n) := (S.1 r hr).2.2.2.2.2.2.2.2.2.1
theorem s_kEnts (S : skel M b n) (hr : r < n) : mKd M (aR b n r + 1) = 104 := (S.1 r hr).2.2.2.2.2.2.2.2.2.2.1
theorem s_lEnts (S : skel M b n) (hr : r < n) : mLn M (aR b n r + 1) = 6 * n := (S.1 r hr).2.2.2.2.2.2.2.2.2.2.2.1
theorem s_kAtts (S : skel M b n) (hr : r < n) : mKd M (aR b n r + 2 + 6 * n) = 105 := (S.1 r hr).2.2.2.2.2.2.2.2.2.2.2.2.1
theorem s_lAtts (S : skel M b n) (hr : r < n) : mLn M (aR b n r + 2 + 6 * n) = 6 * n := (S.1 r hr).2.2.2.2.2.2.2.2.2.2.2.2.2.1
theorem s_kSto (S : skel M b n) (hr : r < n) : mKd M (aR b n r + 3 + 6 * n) = 5 := (S.1 r hr).2.2.2.2.2.2.2.2.2.2.2.2.2.2.1
theorem s_vals (S : skel M b n) (hr : r < n) : mR M 1256 (aR b n r + 3 + 6 * n) 0 = some (aR b n r + 4 + 6 * n) := (S.1 r hr).2.2.2.2.2.2.2.2.2.2.2.2.2.2.2.1
theorem s_rch (S : skel M b n) (hr : r < n) : mR M 1257 (aR b n r + 3 + 6 * n) 0 = some (aR b n r + 5 + 6 * n) := (S.1 r hr).2.2.2.2.2.2.2.2.2.2.2.2.2.2.2.2.1
theorem s_kVals (S : skel M b n) (hr : r < n) : mKd M (aR b n r + 4 + 6 * n) = 100 := (S.1 r hr).2.2.2.2.2.2.2.2.2.2.2.2.2.2.2.2.2.1
theorem s_lVals (S : skel M b n) (hr : r < n) : mLn M (aR b n r + 4 + 6 * n) = 4 := (S.1 r hr).2.2.2.2.2.2.2.2.2.2.2.2.2.2.2.2.2.2.1
theorem s_kRch (S : skel M b n) (hr : r < n) : mKd M (aR b n r + 5 + 6 * n) = 100 := (S.1 r hr).2.2.2.2.2.2.2.2.2.2.2.2.2.2.2.2.2.2.2.1
theorem s_lRch (S : skel M b n) (hr : r < n) : mLn M (aR b n r + 5 + 6 * n) = 6 * n := (S.1 r hr).2.2.2.2.2.2.2.2.2.2.2.2.2.2.2.2.2.2.2.2
theorem skel.fr (S : skel M b n) (h : fr P c M N) (w : wf M) (hP : mutP P) : skel N b n := by
  refine ⟨fun r hr => ⟨(h.r (w.lt (by rw [s_kReps S]; decide)) (hP.no (by decide))).trans (s_rep S hr), fun i hi => ⟨(h.r (w.lt (by rw [s_kEnts S hr]; decide)) (hP.no (by decide))).trans (s_ent S hr hi), h.kd w (s_kEnt S hr hi) (by decide)⟩, h.kd w (s_kRp S hr) (by decide), ((h.i (w.lt (by rw [s_kRp S hr]; decide)) (hP.no (by decide))).trans (s_num S hr)), ((h.i (w.lt (by rw [s_kRp S hr]; decide)) (hP.no (by decide))).trans (s_rsz S hr)), ((h.i (w.lt (by rw [s_kRp S hr]; decide)) (hP.no (by decide))).trans (s_rfa S hr)), ((h.r (w.lt (by rw [s_kRp S hr]; decide)) (hP.no (by decide))).trans (s_rnet S hr)), ((h.r (w.lt (by rw [s_kRp S hr]; decide)) (hP.no (by decide))).trans (s_ents S hr)), ((h.r (w.lt (by rw [s_kRp S hr]; decide)) (hP.no (by decide))).trans (s_atts S hr)), ((h.r (w.lt (by rw [s_kRp S hr]; decide)) (hP.no (by decide))).trans (s_sto S hr)), h.kd w (s_kEnts S hr) (by decide), ((h.2.1 _ (w.lt (by rw [s_kEnts S hr]; decide))).2.trans (s_lEnts S hr)), h.kd w (s_kAtts S hr) (by decide), ((h.2.1 _ (w.lt (by rw [s_kAtts S hr]; decide))).2.trans (s_lAtts S hr)), h.kd w (s_kSto S hr) (by decide), ((h.r (w.lt (by rw [s_kSto S hr]; decide)) (hP.no (by decide))).trans (s_vals S hr)), ((h.r (w.lt (by rw [s_kSto S hr]; decide)) (hP.no (by decide))).trans (s_rch S hr)), h.kd w (s_kVals S hr) (by decide), ((h.2.1 _ (w.lt (by rw [s_kVals S hr]; decide))).2.trans (s_lVals S hr)), h.kd w (s_kRch S hr) (by decide), ((h.2.1 _ (w.lt (by rw [s_kRch S hr]; decide))).2.trans (s_lRch S hr))⟩, h.kd w (s_kLM S) (by decide), ((h.i (w.lt (by rw [s_kLM S]; decide)) (hP.no (by decide))).trans (s_size S)), ((h.i (w.lt (by rw [s_kLM S]; decide)) (hP.no (by decide))).trans (s_faults S)), ((h.r (w.lt (by rw [s_kLM S]; decide)) (hP.no (by decide))).trans (s_net S)), ((h.r (w.lt (by rw [s_kLM S]; decide)) (hP.no (by decide))).trans (s_reps S)), h.kd w (s_kNet S) (by decide), ((h.r (w.lt (by rw [s_kNet S]; decide)) (hP.no (by decide))).trans (s_line S)), h.kd w (s_kLine S) (by decide), ((h.2.1 _ (w.lt (by rw [s_kLine S]; decide))).2.trans (s_lLine S)), h.kd w (s_kReps S) (by decide), ((h.2.1 _ (w.lt (by rw [s_kReps S]; decide))).2.trans (s_lReps S))⟩
end SK

