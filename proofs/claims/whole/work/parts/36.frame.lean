/-! what a run leaves as it was -/
def fr (P : Nat → Nat → Prop) (c : Nat) (M N : me_M) : Prop := (mSz M ≤ mSz N ∧ mSz N ≤ mSz M + c ∧ mSl N + 10 * mSz M ≤ mSl M + 10 * mSz N) ∧ (∀ q, q < mSz M → mKd N q = mKd M q ∧ mLn N q = mLn M q) ∧ ∀ k q i, q < mSz M → ¬ P k q → mI N k q i = mI M k q i ∧ mR N k q i = mR M k q i
def wf (M : me_M) : Prop := ∀ q, mSz M ≤ q → mKd M q = 0 ∧ ∀ k i, mI M k q i = 0 ∧ mR M k q i = none
section FR
variable {P : Nat → Nat → Prop} {c d : Nat} {M N L : me_M}
theorem fr.refl (P : Nat → Nat → Prop) (M : me_M) : fr P 0 M M := ⟨⟨Nat.le_refl _, Nat.le_refl _, Nat.le_refl _⟩, fun _ _ => ⟨rfl, rfl⟩, fun _ _ _ _ _ => ⟨rfl, rfl⟩⟩
theorem fr.trans (h1 : fr P c M N) (h2 : fr P d N L) : fr P (c + d) M L := by
  have a1 := h1.1
  have a2 := h2.1
  refine ⟨⟨by omega, by omega, by omega⟩, fun q hq => ?_, fun k q i hq hP => ?_⟩
  · have a := h1.2.1 q hq
    have b := h2.2.1 q (Nat.lt_of_lt_of_le hq h1.1.1)
    exact ⟨b.1.trans a.1, b.2.trans a.2⟩
  · have a := h1.2.2 k q i hq hP
    have b := h2.2.2 k q i (Nat.lt_of_lt_of_le hq h1.1.1) hP
    exact ⟨b.1.trans a.1, b.2.trans a.2⟩
theorem fr.mono {P' : Nat → Nat → Prop} (h : fr P c M N) (hd : c ≤ d) (hP : ∀ k q, q < mSz M → P k q → P' k q) : fr P' d M N :=
  ⟨⟨h.1.1, Nat.le_trans h.1.2.1 (by omega), h.1.2.2⟩, h.2.1, fun k q i hq hn => h.2.2 k q i hq fun z => hn (hP k q hq z)⟩
theorem fr.setI (h : fr P c M N) {k q i : Nat} {v : Int32} (hq : q < mSz M → P k q) : fr P c M (mSetI N k q i v) := by
  refine ⟨h.1, h.2.1, fun k' q' i' hq' hn => ⟨?_, (h.2.2 k' q' i' hq' hn).2⟩⟩
  rw [mI_SetI, if_neg (fun z => hn (by rw [z.1, z.2.1]; exact hq (by rw [← z.2.1]; exact hq')))]
  exact (h.2.2 k' q' i' hq' hn).1
theorem fr.setR (h : fr P c M N) {k q i : Nat} {v : Option Nat} (hq : q < mSz M → P k q) : fr P c M (mSetR N k q i v) := by
  refine ⟨h.1, h.2.1, fun k' q' i' hq' hn => ⟨(h.2.2 k' q' i' hq' hn).1, ?_⟩⟩
  rw [mR_SetR, if_neg (fun z => hn (by rw [z.1, z.2.1]; exact hq (by rw [← z.2.1]; exact hq')))]
  exact (h.2.2 k' q' i' hq' hn).2
theorem fr.new (h : fr P c M N) {a b e : Nat} (he : e ≤ 10) : fr P (c + 1) M (mNew N a b e) := by
  have a1 := h.1
  refine ⟨⟨by rw [mSz_New]; omega, by rw [mSz_New]; omega, by rw [mSz_New, mSl_New]; omega⟩, fun q hq => ?_, fun k q i hq hn => h.2.2 k q i hq hn⟩
  rw [mKd_New, mLn_New, if_neg (by omega), if_neg (by omega)]
  exact h.2.1 q hq
theorem wf.lt (h : wf M) {q : Nat} (hq : ¬ mKd M q = 0) : q < mSz M := Nat.lt_of_not_le fun z => hq (h q z).1
theorem wf.setI (h : wf M) {k q i : Nat} {v : Int32} (hq : q < mSz M) : wf (mSetI M k q i v) := by
  intro q' hq'
  refine ⟨(h q' hq').1, fun k' i' => ⟨?_, ((h q' hq').2 k' i').2⟩⟩
  have hz : mSz M ≤ q' := hq'
  rw [mI_SetI, if_neg (by omega)]
  exact ((h q' hq').2 k' i').1
theorem wf.setR (h : wf M) {k q i : Nat} {v : Option Nat} (hq : q < mSz M) : wf (mSetR M k q i v) := by
  intro q' hq'
  refine ⟨(h q' hq').1, fun k' i' => ⟨((h q' hq').2 k' i').1, ?_⟩⟩
  have hz : mSz M ≤ q' := hq'
  rw [mR_SetR, if_neg (by omega)]
  exact ((h q' hq').2 k' i').2
theorem wf.new (h : wf M) {a b c : Nat} : wf (mNew M a b c) := by
  intro q' hq'
  rw [mSz_New] at hq'
  have := h q' (by omega)
  refine ⟨?_, this.2⟩
  rw [mKd_New, if_neg (by omega)]
  exact this.1
/-- an old cell's kind stays -/
theorem fr.kd (h : fr P c M N) (w : wf M) {q e : Nat} (hc : mKd M q = e) (h0 : ¬ e = 0) : mKd N q = e := by
  rw [(h.2.1 q (w.lt (by rw [hc]; exact h0))).1, hc]
theorem fr.i (h : fr P c M N) {k q i : Nat} (hq : q < mSz M) (hP : ¬ P k q) : mI N k q i = mI M k q i := (h.2.2 k q i hq hP).1
theorem fr.r (h : fr P c M N) {k q i : Nat} (hq : q < mSz M) (hP : ¬ P k q) : mR N k q i = mR M k q i := (h.2.2 k q i hq hP).2
end FR
