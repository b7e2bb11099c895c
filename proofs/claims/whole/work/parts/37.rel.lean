/-! the class's cells and the reference's memory D, side by side -/
def aR (b n r : Nat) : Nat := b + 4 + r * (6 * n + 6)
theorem aR_inj {b n r r' x y : Nat} (hn : n = 3 ∨ n = 5) (hx : x < 6 * n + 6) (hy : y < 6 * n + 6) (h : aR b n r + x = aR b n r' + y) : r = r' ∧ x = y := by
  unfold aR at h
  rcases hn with rfl | rfl <;> constructor <;> omega
theorem aR_lo (b n r : Nat) : b + 4 ≤ aR b n r := by unfold aR; omega
theorem aR_hi {b n r x : Nat} (hn : n = 3 ∨ n = 5) (hr : r < n) (hx : x < 6 * n + 6) : aR b n r + x < b + 4 + n * (6 * n + 6) := by
  unfold aR
  rcases hn with rfl | rfl <;> omega
/-- a command: the reference's number for it, and its new value if it puts -/
def CmdOK (M : me_M) (q : Nat) (cd vl : Int32) : Prop := mKd M q = 7 ∧ ∃ key : Nat, key < 4 ∧ mI M 1385 q 0 = nI key ∧ ((mI M 1384 q 0 = 0 ∧ cd = nI key) ∨ (mI M 1384 q 0 = 1 ∧ cd = nI (4 + key) ∧ mI M 1386 q 0 = vl) ∨ (mI M 1384 q 0 = 2 ∧ cd = 8))
def OrdOK (M : me_M) (q : Nat) (cd vl sq dp : Int32) : Prop := mKd M q = 8 ∧ mI M 1449 q 0 = sq ∧ mI M 1450 q 0 = dp ∧ ∃ c, mR M 1448 q 0 = some c ∧ CmdOK M c cd vl
def OrdR (M : me_M) (o : Option Nat) (cd vl sq dp : Int32) : Prop := ∃ q, o = some q ∧ OrdOK M q cd vl sq dp
def RptOK (M : me_M) (q : Nat) (fr st cd vl sq dp vt : Int32) : Prop := mKd M q = 9 ∧ mI M 1512 q 0 = fr ∧ mI M 1513 q 0 = st ∧ mI M 1515 q 0 = vt ∧ (¬ st = 0 → OrdR M (mR M 1514 q 0) cd vl sq dp)
def MsgOK (M : me_M) (q : Nat) (K : Nat → Int32) : Prop := mKd M q = 10 ∧ mI M 1576 q 0 = K 0 ∧ mI M 1577 q 0 = K 1 ∧ mI M 1578 q 0 = K 2 ∧ mI M 1579 q 0 = K 3 ∧ (¬ K 0 = 4 → mI M 1580 q 0 = K 4) ∧
  ((K 0 = 0 ∨ K 0 = 1 ∨ K 0 = 2 ∨ K 0 = 4) → OrdR M (mR M 1581 q 0) (K 5) (K 6) (K 7) (K 8)) ∧ (K 0 = 6 → ∃ p, mR M 1582 q 0 = some p ∧ RptOK M p (K 1) (K 9) (K 5) (K 6) (K 7) (K 8) (K 10))
def EntOK (M : me_M) (q : Nat) (D : me_D) (a : Nat) : Prop := mI M 1192 q 0 = D 4 a ∧ mI M 1194 q 0 = D 9 a ∧ mI M 1195 q 0 = D 10 a ∧ mI M 1196 q 0 = D 12 a ∧ mI M 1197 q 0 = D 11 a ∧
  (D 4 a = 0 → mR M 1193 q 0 = none) ∧ (¬ D 4 a = 0 → OrdR M (mR M 1193 q 0) (D 5 a) (D 6 a) (D 7 a) (D 8 a))
/-- nothing that never changes is in P: commands, orders, reports, messages -/
def imm (P : Nat → Nat → Prop) : Prop := ∀ k q, 1384 ≤ k → k < 1640 → ¬ P k q
section REL
variable {P : Nat → Nat → Prop} {c : Nat} {M N : me_M}
theorem CmdOK.fr (h : fr P c M N) (hi : imm P) (w : wf M) {q : Nat} {cd vl : Int32} (hk : CmdOK M q cd vl) : CmdOK N q cd vl := by
  have hq := w.lt (q := q) (by rw [hk.1]; decide)
  refine ⟨h.kd w hk.1 (by decide), ?_⟩
  rw [h.i hq (hi _ _ (by decide) (by decide)), h.i hq (hi _ _ (by decide) (by decide)), h.i hq (hi _ _ (by decide) (by decide))]
  exact hk.2
theorem OrdOK.fr (h : fr P c M N) (hi : imm P) (w : wf M) {q : Nat} {cd vl sq dp : Int32} (hk : OrdOK M q cd vl sq dp) : OrdOK N q cd vl sq dp := by
  have hq := w.lt (q := q) (by rw [hk.1]; decide)
  obtain ⟨h1, h2, h3, z, h4, h5⟩ := hk
  refine ⟨h.kd w h1 (by decide), ?_, ?_, z, ?_, CmdOK.fr h hi w h5⟩
  · rw [h.i hq (hi _ _ (by decide) (by decide))]; exact h2
  · rw [h.i hq (hi _ _ (by decide) (by decide))]; exact h3
  · rw [h.r hq (hi _ _ (by decide) (by decide))]; exact h4
theorem OrdR.fr (h : fr P c M N) (hi : imm P) (w : wf M) {o : Option Nat} {cd vl sq dp : Int32} (hk : OrdR M o cd vl sq dp) : OrdR N o cd vl sq dp := by
  obtain ⟨q, h1, h2⟩ := hk
  exact ⟨q, h1, OrdOK.fr h hi w h2⟩
theorem RptOK.fr (h : fr P c M N) (hi : imm P) (w : wf M) {q : Nat} {fr st cd vl sq dp vt : Int32} (hk : RptOK M q fr st cd vl sq dp vt) : RptOK N q fr st cd vl sq dp vt := by
  have hq := w.lt (q := q) (by rw [hk.1]; decide)
  obtain ⟨h1, h2, h3, h4, h5⟩ := hk
  refine ⟨h.kd w h1 (by decide), ?_, ?_, ?_, fun hz => ?_⟩
  · rw [h.i hq (hi _ _ (by decide) (by decide))]; exact h2
  · rw [h.i hq (hi _ _ (by decide) (by decide))]; exact h3
  · rw [h.i hq (hi _ _ (by decide) (by decide))]; exact h4
  · rw [h.r hq (hi _ _ (by decide) (by decide))]; exact OrdR.fr h hi w (h5 hz)
theorem MsgOK.fr (h : fr P c M N) (hi : imm P) (w : wf M) {q : Nat} {K : Nat → Int32} (hk : MsgOK M q K) : MsgOK N q K := by
  have hq := w.lt (q := q) (by rw [hk.1]; decide)
  obtain ⟨h1, h2, h3, h4, h5, h6, h7, h8⟩ := hk
  refine ⟨h.kd w h1 (by decide), ?_, ?_, ?_, ?_, fun hz => ?_, fun hz => ?_, fun hz => ?_⟩
  · rw [h.i hq (hi _ _ (by decide) (by decide))]; exact h2
  · rw [h.i hq (hi _ _ (by decide) (by decide))]; exact h3
  · rw [h.i hq (hi _ _ (by decide) (by decide))]; exact h4
  · rw [h.i hq (hi _ _ (by decide) (by decide))]; exact h5
  · rw [h.i hq (hi _ _ (by decide) (by decide))]; exact h6 hz
  · rw [h.r hq (hi _ _ (by decide) (by decide))]; exact OrdR.fr h hi w (h7 hz)
  · obtain ⟨p, h9, h10⟩ := h8 hz
    exact ⟨p, by rw [h.r hq (hi _ _ (by decide) (by decide))]; exact h9, RptOK.fr h hi w h10⟩
end REL
