/-! Warshall's closure, and what a component is to the class and to the reference -/
section WRS
variable {R : Nat → Nat → Prop}
def wr (R : Nat → Nat → Prop) : Nat → Nat → Nat → Prop
  | 0 => R
  | k + 1 => fun i j => wr R k i j ∨ (wr R k i k ∧ wr R k k j)
theorem wr_tg (k : Nat) : ∀ i j, wr R k i j → Relation.TransGen R i j := by
  induction k with
  | zero => exact fun i j h => .single h
  | succ k ih =>
    intro i j h
    rcases h with h | ⟨h1, h2⟩
    · exact ih i j h
    · exact (ih i k h1).trans (ih k j h2)
theorem wr_up (k d : Nat) : ∀ i j, wr R k i j → wr R (k + d) i j := by
  induction d with
  | zero => exact fun i j h => h
  | succ d ih => exact fun i j h => Or.inl (ih i j h)
theorem wr_tr (k : Nat) : ∀ m, m < k → ∀ i j, wr R k i m → wr R k m j → wr R k i j := by
  induction k with
  | zero => intro m hm; omega
  | succ k ih =>
    intro m hm i j h1 h2
    by_cases hk : m = k
    · subst hk
      have a : wr R m i m := by rcases h1 with h | h; exact h; exact h.1
      have b : wr R m m j := by rcases h2 with h | h; exact h; exact h.2
      exact Or.inr ⟨a, b⟩
    · have hm' : m < k := by omega
      rcases h1 with h1 | ⟨h1, h1'⟩ <;> rcases h2 with h2 | ⟨h2, h2'⟩
      · exact Or.inl (ih m hm' i j h1 h2)
      · exact Or.inr ⟨ih m hm' i k h1 h2, h2'⟩
      · exact Or.inr ⟨h1, ih m hm' k j h1' h2⟩
      · exact Or.inr ⟨h1, h2'⟩
theorem wr_all {N : Nat} (hN : ∀ a b, R a b → a < N) (i j : Nat) : wr R N i j ↔ Relation.TransGen R i j := by
  constructor
  · exact wr_tg N i j
  · intro h
    induction h with
    | single h => exact (by have := wr_up (R := R) 0 N i _ h; rwa [Nat.zero_add] at this)
    | tail h1 h2 ih =>
      have h3 := wr_up (R := R) 0 N _ _ h2
      rw [Nat.zero_add] at h3
      exact wr_tr N _ (hN _ _ h2) _ _ ih h3
end WRS
section CMP
variable {c0 ex : Nat → Prop} {dep : Nat → Nat → Prop}
def cG (c0 : Nat → Prop) (dep : Nat → Nat → Prop) (i j : Nat) : Prop := c0 i ∧ dep i j
def cT (c0 ex : Nat → Prop) (i : Nat) : Prop := c0 i ∧ ¬ ex i
def cH (c0 ex : Nat → Prop) (dep : Nat → Nat → Prop) (i j : Nat) : Prop := cT c0 ex i ∧ ((dep i j ∧ cT c0 ex j) ∨ i = j)
def cN (c0 ex : Nat → Prop) (dep : Nat → Nat → Prop) (i j : Nat) : Prop := c0 i ∧ dep i j ∧ ¬ ex i ∧ ¬ ex j
/-- what the class calls open from i -/
def cOpen (c0 ex : Nat → Prop) (dep : Nat → Nat → Prop) (i j : Nat) : Prop := (Relation.TransGen (cG c0 dep) i j ∨ j = i) ∧ ¬ ex j
def cReady (c0 ex : Nat → Prop) (dep : Nat → Nat → Prop) (i : Nat) : Prop := ∀ j, cOpen c0 ex dep i j → j = i ∨ Relation.TransGen (cG c0 dep) j i
/-- the reference's component of i -/
def cComp (c0 ex : Nat → Prop) (dep : Nat → Nat → Prop) (i j : Nat) : Prop := Relation.TransGen (cH c0 ex dep) i j ∧ Relation.TransGen (cH c0 ex dep) j i
def cDone (c0 ex : Nat → Prop) (dep : Nat → Nat → Prop) (i : Nat) : Prop := ∀ j, cComp c0 ex dep i j → ∀ l, dep j l → cComp c0 ex dep i l ∨ ex l
def cClosed (c0 ex : Nat → Prop) (dep : Nat → Nat → Prop) : Prop := ∀ i, c0 i → ex i → ∀ j, dep i j → ex j
theorem tg_first {R : Nat → Nat → Prop} {a b : Nat} (h : Relation.TransGen R a b) : ∃ x, R a x := by
  induction h with
  | single h => exact ⟨_, h⟩
  | tail _ _ ih => exact ih
theorem cH_ct {i j : Nat} (h : Relation.TransGen (cH c0 ex dep) i j) : cT c0 ex i := by
  obtain ⟨x, hx⟩ := tg_first h
  exact hx.1
theorem cH_end {i j : Nat} (h : Relation.TransGen (cH c0 ex dep) i j) : cT c0 ex j := by
  induction h with
  | single h => rcases h with ⟨h1, ⟨_, h2⟩ | rfl⟩; exact h2; exact h1
  | tail _ h _ => rcases h with ⟨h1, ⟨_, h2⟩ | rfl⟩; exact h2; exact h1
theorem cH_G {i j : Nat} (h : Relation.TransGen (cH c0 ex dep) i j) : j = i ∨ Relation.TransGen (cG c0 dep) i j := by
  induction h with
  | single h =>
    rcases h with ⟨h1, ⟨h2, _⟩ | h2⟩
    · exact Or.inr (.single ⟨h1.1, h2⟩)
    · exact Or.inl h2.symm
  | tail _ h ih =>
    rcases h with ⟨h1, ⟨h2, _⟩ | rfl⟩
    · rcases ih with rfl | ih
      · exact Or.inr (.single ⟨h1.1, h2⟩)
      · exact Or.inr (ih.tail ⟨h1.1, h2⟩)
    · exact ih
theorem cG_N (hC : cClosed c0 ex dep) {i j : Nat} (h : Relation.TransGen (cG c0 dep) i j) : ¬ ex j → Relation.TransGen (cN c0 ex dep) i j := by
  induction h with
  | single h => exact fun hj => .single ⟨h.1, h.2, fun hi => hj (hC _ h.1 hi _ h.2), hj⟩
  | tail _ h ih => exact fun hj => (ih fun ha => hj (hC _ h.1 ha _ h.2)).tail ⟨h.1, h.2, fun ha => hj (hC _ h.1 ha _ h.2), hj⟩
theorem cN_G {i j : Nat} (h : Relation.TransGen (cN c0 ex dep) i j) : Relation.TransGen (cG c0 dep) i j := by
  induction h with
  | single h => exact .single ⟨h.1, h.2.1⟩
  | tail _ h ih => exact ih.tail ⟨h.1, h.2.1⟩
theorem cOpen_ct {i j : Nat} (hi : cT c0 ex i) (hr : cReady c0 ex dep i) (h : cOpen c0 ex dep i j) : cT c0 ex j := by
  rcases hr j h with rfl | h2
  · exact hi
  · obtain ⟨x, hx⟩ := tg_first h2
    exact ⟨hx.1, h.2⟩
theorem cN_H {i : Nat} (hi : cT c0 ex i) (hr : cReady c0 ex dep i) {a b : Nat} (ha : a = i ∨ Relation.TransGen (cG c0 dep) i a) (h : Relation.TransGen (cN c0 ex dep) a b) : Relation.TransGen (cH c0 ex dep) a b ∧ (b = i ∨ Relation.TransGen (cG c0 dep) i b) := by
  have go : ∀ {x y}, (x = i ∨ Relation.TransGen (cG c0 dep) i x) → cN c0 ex dep x y → cH c0 ex dep x y ∧ (y = i ∨ Relation.TransGen (cG c0 dep) i y) := by
    intro x y hx h
    have hy : Relation.TransGen (cG c0 dep) i y := by
      rcases hx with rfl | hx
      · exact .single ⟨h.1, h.2.1⟩
      · exact hx.tail ⟨h.1, h.2.1⟩
    exact ⟨⟨⟨h.1, h.2.2.1⟩, Or.inl ⟨h.2.1, cOpen_ct hi hr ⟨Or.inl hy, h.2.2.2⟩⟩⟩, Or.inr hy⟩
  induction h with
  | single h => exact ⟨.single (go ha h).1, (go ha h).2⟩
  | tail _ h ih => exact ⟨ih.1.tail (go ih.2 h).1, (go ih.2 h).2⟩
theorem cComp_open {i j : Nat} (h : cComp c0 ex dep i j) : cOpen c0 ex dep i j := by
  refine ⟨?_, (cH_ct h.2).2⟩
  rcases cH_G h.1 with h1 | h1
  · exact Or.inr h1
  · exact Or.inl h1
theorem cComp_self {i : Nat} (hi : cT c0 ex i) : cComp c0 ex dep i i := ⟨.single ⟨hi, Or.inr rfl⟩, .single ⟨hi, Or.inr rfl⟩⟩
theorem cOpen_comp (hC : cClosed c0 ex dep) {i j : Nat} (hi : cT c0 ex i) (hr : cReady c0 ex dep i) (h : cOpen c0 ex dep i j) : cComp c0 ex dep i j := by
  rcases h.1 with h1 | rfl
  · have a := (cN_H hi hr (Or.inl rfl) (cG_N hC h1 h.2)).1
    rcases hr j h with rfl | h2
    · exact cComp_self hi
    · exact ⟨a, (cN_H hi hr (Or.inr h1) (cG_N hC h2 hi.2)).1⟩
  · exact cComp_self hi
theorem cReady_done (hC : cClosed c0 ex dep) {i : Nat} (hi : cT c0 ex i) (hr : cReady c0 ex dep i) : cDone c0 ex dep i := by
  intro j hj l hl
  by_cases hx : ex l
  · exact Or.inr hx
  · refine Or.inl (cOpen_comp hC hi hr ⟨Or.inl ?_, hx⟩)
    have hc : cG c0 dep j l := ⟨(cH_ct hj.2).1, hl⟩
    rcases (cComp_open hj).1 with h | rfl
    · exact h.tail hc
    · exact .single hc
theorem cDone_ready (hC : cClosed c0 ex dep) {i : Nat} (hi : cT c0 ex i) (hd : cDone c0 ex dep i) : cReady c0 ex dep i := by
  have key : ∀ {j}, Relation.TransGen (cG c0 dep) i j → cComp c0 ex dep i j ∨ ex j := by
    intro j h
    induction h with
    | single h => exact hd i (cComp_self hi) _ h.2
    | tail _ h ih =>
      rcases ih with ih | ih
      · exact hd _ ih _ h.2
      · exact Or.inr (hC _ h.1 ih _ h.2)
  intro j hj
  rcases hj.1 with h | h
  · rcases key h with hk | hk
    · rcases cH_G hk.2 with h2 | h2
      · exact Or.inl h2.symm
      · exact Or.inr h2
    · exact absurd hk hj.2
  · exact Or.inl h
theorem cReady_iff (hC : cClosed c0 ex dep) {i : Nat} (hi : cT c0 ex i) : cReady c0 ex dep i ↔ cDone c0 ex dep i := ⟨cReady_done hC hi, cDone_ready hC hi⟩
theorem cOpen_iff (hC : cClosed c0 ex dep) {i : Nat} (hi : cT c0 ex i) (hr : cReady c0 ex dep i) (j : Nat) : cOpen c0 ex dep i j ↔ cComp c0 ex dep i j := ⟨cOpen_comp hC hi hr, cComp_open⟩
theorem cClosed_step (hC : cClosed c0 ex dep) {i : Nat} (hd : cDone c0 ex dep i) : cClosed c0 (fun j => ex j ∨ cComp c0 ex dep i j) dep := by
  intro a ha hx l hl
  rcases hx with hx | hx
  · exact Or.inl (hC a ha hx l hl)
  · rcases hd a hx l hl with h | h
    · exact Or.inr h
    · exact Or.inl h
end CMP
