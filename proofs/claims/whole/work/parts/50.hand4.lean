section HAND4
variable {c : Nat} {M N : me_M} {b n r i : Nat} {D E : me_D}
def cntM (M : me_M) (q : Nat) (a s d k : Int32) : me_M := mSetI (mSetI (mSetI (mSetI M 1325 q 0 a) 1326 q 0 s) 1327 q 0 d) 1324 q 0 k
theorem c_At_countOrder0 {q p : Nat} (hk : mKd M q = 6) (h0 : mI M 1324 q 0 = 0) {cd vl sq dp : Int32} (ho : OrdOK M p cd vl sq dp) : EX eL X_At_countOrder 0 [some (.inr (some q)), some (.inr (some p))] [] M (fun x N => x = none ∧ N = cntM M q 1 sq dp 1) := by
  obtain ⟨o1, o2, o3, -⟩ := ho
  refine sg_At_countOrder_0 ?_
  simp only [hk, h0, o1, o2, o3, forall_eq, Option.some.injEq, exists_eq_left', true_and, mKd_SetI, mI_SetI, Nat.reduceEqDiff, false_and, if_false, not_true, false_implies, and_true, cntM, forall_const, and_self, if_true]
  simp
theorem c_At_countOrder1 {q p : Nat} (hk : mKd M q = 6) {k : Int32} (h0 : mI M 1324 q 0 = k) (hk0 : ¬ k = 0) {a : Bool} {g e : Int32} (ha : mI M 1325 q 0 = b01 a) (hg : mI M 1326 q 0 = g) (he : mI M 1327 q 0 = e) {cd vl sq dp : Int32} (ho : OrdOK M p cd vl sq dp) : EX eL X_At_countOrder 0 [some (.inr (some q)), some (.inr (some p))] [] M (fun x N => x = none ∧ N = cntM M q (b01 (a && decide (sq = g) && decide (dp = e))) (me_max g sq) (e ||| dp) (k + 1)) := by
  obtain ⟨o1, o2, o3, -⟩ := ho
  refine sg_At_countOrder_0 ?_
  simp only [hk, h0, ha, hg, he, o1, o2, o3, forall_eq, Option.some.injEq, exists_eq_left', true_and, mKd_SetI, mI_SetI, Nat.reduceEqDiff, false_and, if_false, not_true, false_implies, and_true, cntM, forall_const, and_self, if_true, hk0, not_false_iff]
  cases a <;> by_cases h1 : sq = g <;> by_cases h2 : dp = e <;> simp [b01, h1, h2]
end HAND4
