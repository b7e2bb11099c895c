/-! the relation after one kind of change -/
section STEP
variable {P : Nat → Nat → Prop} {c : Nat} {M N : me_M} {b n : Nat} {D E : me_D}
theorem g_manyU_congr : ∀ {k : Nat}, (∀ r, r < k → E 1 r = D 1 r) → g_manyU E k = g_manyU D k := by
  intro k
  induction k with
  | zero => intro _; rfl
  | succ k ih => intro h; rw [g_manyU, g_manyU, ih (fun r hr => h r (by omega)), h k (by omega)]
theorem cW.w (C : cW M b n D) : wf M := C.2.1
theorem cW.sk (C : cW M b n D) : skel M b n := C.2.2.1
theorem cW.ent (C : cW M b n D) {r i : Nat} (hr : r < n) (hi : i < 6 * n) : EntOK M (aR b n r + 2 + i) D (30 * r + i) := C.2.2.2.1 r i hr hi
theorem cW.att (C : cW M b n D) {r i : Nat} (hr : r < n) (hi : i < 6 * n) : AttOK M n (mR M 105 (aR b n r + 2 + 6 * n) i) D (30 * r + i) := C.2.2.2.2.1 r i hr hi
theorem cW.aD (C : cW M b n D) : attD M b n := C.2.2.2.2.2.1
theorem cW.aR' (C : cW M b n D) : attR M b n := C.2.2.2.2.2.2.1
theorem cW.net (C : cW M b n D) : NetOK M b D := C.2.2.2.2.2.2.2.1
theorem cW.sto (C : cW M b n D) {r : Nat} (hr : r < n) : StoOK M b n r D := C.2.2.2.2.2.2.2.2.1 r hr
theorem cW.cr (C : cW M b n D) {r : Nat} (hr : r < n) : mI M 1135 (aR b n r) 0 = D 1 r := C.2.2.2.2.2.2.2.2.2.1 r hr
theorem cW.many (C : cW M b n D) : mI M 1004 b 0 = g_manyU D n := C.2.2.2.2.2.2.2.2.2.2
theorem cW.attk (C : cW M b n D) {r i q : Nat} (hr : r < n) (hi : i < 6 * n) (h : mR M 105 (aR b n r + 2 + 6 * n) i = some q) : mKd M q = 6 := by
  obtain ⟨e1, e2⟩ := C.att hr hi
  by_cases hz : D 13 (30 * r + i) = 0
  · rw [e1 hz] at h; cases h
  · obtain ⟨q', k, a1, a2, -⟩ := e2 hz
    rw [a1] at h
    cases h
    exact a2
theorem cW.attw (C : cW M b n D) {r i q v : Nat} (hr : r < n) (hi : i < 6 * n) (h : mR M 105 (aR b n r + 2 + 6 * n) i = some q) (hv : mR M 1322 q 0 = some v) : v < mSz M := by
  obtain ⟨e1, e2⟩ := C.att hr hi
  by_cases hz : D 13 (30 * r + i) = 0
  · rw [e1 hz] at h; cases h
  · obtain ⟨q', k, a1, a2, -, -, -, -, -, -, -, w, b1, b2, -⟩ := e2 hz
    rw [a1] at h
    cases h
    rw [b1] at hv
    cases hv
    exact C.w.lt (by rw [b2]; decide)
/-- the attempts' addresses stay apart -/
theorem attD.keep (C : cW M b n D) (h : fr P c M N) (h5 : ∀ q, ¬ P 105 q) : attD N b n := by
  intro r i r' i' q hr hi hr' hi' a1 a2
  have l : ∀ r, r < n → aR b n r + 2 + 6 * n < mSz M := fun r hr => C.w.lt (by rw [s_kAtts C.sk hr]; decide)
  rw [h.r (l r hr) (h5 _)] at a1
  rw [h.r (l r' hr') (h5 _)] at a2
  exact C.aD r i r' i' q hr hi hr' hi' a1 a2
theorem attR.keep (C : cW M b n D) (h : fr P c M N) (hP : mutP P) (h5 : ∀ q, ¬ P 105 q) : attR N b n := by
  intro r i r' i' q q' w hr hi hr' hi' a1 a2 a3 a4
  have l : ∀ r, r < n → aR b n r + 2 + 6 * n < mSz M := fun r hr => C.w.lt (by rw [s_kAtts C.sk hr]; decide)
  rw [h.r (l r hr) (h5 _)] at a1
  rw [h.r (l r' hr') (h5 _)] at a2
  rw [h.r (C.w.lt (by rw [C.attk hr hi a1]; decide)) (hP.no (by decide))] at a3
  rw [h.r (C.w.lt (by rw [C.attk hr' hi' a2]; decide)) (hP.no (by decide))] at a4
  exact C.aR' r i r' i' q q' w hr hi hr' hi' a1 a2 a3 a4
/-- nothing of the old cells changed -/
theorem cW.alloc (C : cW M b n D) (h : fr (fun _ _ => False) c M N) (w : wf N) : cW N b n D := by
  have hP : mutP (fun _ _ => False) := fun _ _ z => z.elim
  refine ⟨C.1, w, C.sk.fr h C.w hP, fun r i hr hi => EntOK.keep h hP C.w (s_kEnt C.sk hr hi) (fun _ _ _ z => z) (fun _ _ _ => rfl) (C.ent hr hi), fun r i hr hi => ?_, attD.keep C h (fun _ z => z), attR.keep C h hP (fun _ z => z), ?_, fun r hr => ?_, fun r hr => ?_, ?_⟩
  · have l := C.w.lt (q := aR b n r + 2 + 6 * n) (by rw [s_kAtts C.sk hr]; decide)
    rw [h.r l (fun z => z)]
    obtain ⟨e1, e2⟩ := C.att hr hi
    refine ⟨e1, fun hz => ?_⟩
    obtain ⟨q, k, a1, a2, a3, a4, a10, a5, a6, a7, a8, a9⟩ := e2 hz
    have hl := C.w.lt (q := q) (by rw [a2]; decide)
    refine ⟨q, k, a1, h.kd C.w a2 (by decide), ?_⟩
    rw [h.i hl (fun z => z), h.i hl (fun z => z), h.i hl (fun z => z), h.i hl (fun z => z), h.i hl (fun z => z), h.i hl (fun z => z), h.i hl (fun z => z), h.r hl (fun z => z)]
    refine ⟨a3, a4, a10, a5, a6, a7, a8, ?_⟩
    obtain ⟨v, b1, b2, b3⟩ := a9
    have hl2 := C.w.lt (q := v) (by rw [b2]; decide)
    refine ⟨v, b1, h.kd C.w b2 (by decide), fun hp => ⟨(h.2.1 _ hl2).2.trans (b3 hp).1, fun j hj => ?_⟩⟩
    obtain ⟨p, p1, p2⟩ := (b3 hp).2 j hj
    exact ⟨p, (h.r hl2 (fun z => z)).trans p1, RptOK.fr h hP.imm C.w p2⟩
  · obtain ⟨e1, e2, e3⟩ := C.net
    have l1 := C.w.lt (q := b + 1) (by rw [s_kNet C.sk]; decide)
    have l2 := C.w.lt (q := b + 2) (by rw [s_kLine C.sk]; decide)
    refine ⟨by rw [h.i l1 (fun z => z)]; exact e1, by rw [h.i l1 (fun z => z)]; exact e2, fun k hk => ?_⟩
    obtain ⟨q, a1, a2⟩ := e3 k hk
    exact ⟨q, (h.r l2 (fun z => z)).trans a1, MsgOK.fr h hP.imm C.w a2⟩
  · exact StoOK.keep h hP C.w C.sk hr (fun z => z) (fun z => z) (fun z => z) (fun _ _ => rfl) rfl (fun _ _ => Iff.rfl) (C.sto hr)
  · rw [h.i (C.w.lt (by rw [s_kRp C.sk hr]; decide)) (fun z => z)]; exact C.cr hr
  · rw [h.i (C.w.lt (by rw [s_kLM C.sk]; decide)) (fun z => z)]; exact C.many
def pNet (b : Nat) (k q : Nat) : Prop := (k = 1065 ∧ q = b + 1) ∨ (k = 1066 ∧ q = b + 1) ∨ (k = 102 ∧ q = b + 2)
theorem pNet_mut : mutP (pNet b) := by
  rintro k q (⟨rfl, -⟩ | ⟨rfl, -⟩ | ⟨rfl, -⟩) <;> rfl
theorem pNet_no {k q : Nat} (h1 : ¬ k = 1065) (h2 : ¬ k = 1066) (h3 : ¬ k = 102) : ¬ pNet b k q := by
  rintro (⟨h, -⟩ | ⟨h, -⟩ | ⟨h, -⟩)
  · exact h1 h
  · exact h2 h
  · exact h3 h
/-- the network alone changed -/
theorem cW.netc (C : cW M b n D) (h : fr (pNet b) c M N) (w : wf N) (hE : ∀ j x, ¬ j = 24 → ¬ j = 1666 → ¬ j = 1667 → E j x = D j x) (hN : NetOK N b E) : cW N b n E := by
  have hP := pNet_mut (b := b)
  refine ⟨C.1, w, C.sk.fr h C.w hP, fun r i hr hi => EntOK.keep h hP C.w (s_kEnt C.sk hr hi) (fun k h1 h2 => pNet_no (by omega) (by omega) (by omega)) (fun j h1 h2 => hE j _ (by omega) (by omega) (by omega)) (C.ent hr hi), fun r i hr hi => ?_, attD.keep C h (fun _ => pNet_no (by decide) (by decide) (by decide)), attR.keep C h hP (fun _ => pNet_no (by decide) (by decide) (by decide)), hN, fun r hr => ?_, fun r hr => ?_, ?_⟩
  · have l := C.w.lt (q := aR b n r + 2 + 6 * n) (by rw [s_kAtts C.sk hr]; decide)
    rw [h.r l (pNet_no (by decide) (by decide) (by decide))]
    exact AttOK.keep h hP C.w (fun _ _ k h1 h2 => pNet_no (by omega) (by omega) (by omega)) (fun _ _ _ _ => pNet_no (by decide) (by decide) (by decide)) (fun j h1 h2 => hE j _ (by omega) (by omega) (by omega)) (fun j k h1 h2 _ => hE j _ (by omega) (by omega) (by omega)) (C.att hr hi)
  · exact StoOK.keep h hP C.w C.sk hr (pNet_no (by decide) (by decide) (by decide)) (pNet_no (by decide) (by decide) (by decide)) (pNet_no (by decide) (by decide) (by decide)) (fun _ _ => hE _ _ (by decide) (by decide) (by decide)) (hE _ _ (by decide) (by decide) (by decide)) (fun _ _ => by rw [hE _ _ (by decide) (by decide) (by decide)]) (C.sto hr)
  · rw [h.i (C.w.lt (by rw [s_kRp C.sk hr]; decide)) (pNet_no (by decide) (by decide) (by decide)), hE _ _ (by decide) (by decide) (by decide)]; exact C.cr hr
  · rw [h.i (C.w.lt (by rw [s_kLM C.sk]; decide)) (pNet_no (by decide) (by decide) (by decide)), g_manyU_congr (D := D) (fun r _ => hE _ _ (by decide) (by decide) (by decide))]; exact C.many
end STEP
