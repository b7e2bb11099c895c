/-! what stays of the relation when something changes -/
section KEEP
variable {P : Nat → Nat → Prop} {c : Nat} {M N : me_M} {b n r i : Nat} {D E : me_D}
theorem EntOK.keep (h : fr P c M N) (hP : mutP P) (w : wf M) {q a : Nat} (hk : mKd M q = 4) (hq : ∀ k, 1192 ≤ k → k ≤ 1197 → ¬ P k q) (hD : ∀ j, 4 ≤ j → j ≤ 12 → E j a = D j a) (e : EntOK M q D a) : EntOK N q E a := by
  have hl := w.lt (q := q) (by rw [hk]; decide)
  obtain ⟨e1, e2, e3, e4, e5, e6, e7⟩ := e
  refine ⟨?_, ?_, ?_, ?_, ?_, fun hz => ?_, fun hz => ?_⟩
  · rw [h.i hl (hq _ (by decide) (by decide)), hD _ (by decide) (by decide)]; exact e1
  · rw [h.i hl (hq _ (by decide) (by decide)), hD _ (by decide) (by decide)]; exact e2
  · rw [h.i hl (hq _ (by decide) (by decide)), hD _ (by decide) (by decide)]; exact e3
  · rw [h.i hl (hq _ (by decide) (by decide)), hD _ (by decide) (by decide)]; exact e4
  · rw [h.i hl (hq _ (by decide) (by decide)), hD _ (by decide) (by decide)]; exact e5
  · rw [hD _ (by decide) (by decide)] at hz
    rw [h.r hl (hq _ (by decide) (by decide))]; exact e6 hz
  · rw [hD _ (by decide) (by decide)] at hz
    rw [h.r hl (hq _ (by decide) (by decide)), hD _ (by decide) (by decide), hD _ (by decide) (by decide), hD _ (by decide) (by decide), hD _ (by decide) (by decide)]
    exact OrdR.fr h hP.imm w (e7 hz)
theorem g_apU_congr {a : Nat} : ∀ {k : Nat}, (∀ j, j ≤ k → E 21 (4 * a + j) = D 21 (4 * a + j) ∧ E 22 (4 * a + j) = D 22 (4 * a + j)) → g_apU E a k = g_apU D a k := by
  intro k
  induction k with
  | zero =>
    intro h
    have := (h 0 (Nat.le_refl _)).1
    rw [Nat.add_zero] at this
    simp only [g_apU, this]
  | succ k ih =>
    intro h
    have h0 := h 0 (by omega)
    rw [Nat.add_zero] at h0
    rw [g_apU, g_apU, ih (fun j hj => h j (by omega)), (h k (by omega)).1, (h k (by omega)).2, h0.1, h0.2]
theorem AttOK.keep (h : fr P c M N) (hP : mutP P) (w : wf M) {o : Option Nat} {a : Nat} (hq : ∀ q, o = some q → ∀ k, 1323 ≤ k → k ≤ 1327 → ¬ P k q) (hw : ∀ q v, o = some q → mR M 1322 q 0 = some v → ¬ P 106 v)
    (hD : ∀ j, 13 ≤ j → j ≤ 16 → E j a = D j a) (hR : ∀ j k, 17 ≤ j → j ≤ 23 → k < 4 → E j (4 * a + k) = D j (4 * a + k)) (e : AttOK M n o D a) : AttOK N n o E a := by
  obtain ⟨e1, e2⟩ := e
  refine ⟨fun hz => e1 (by rw [← hD _ (by decide) (by decide)]; exact hz), fun hz => ?_⟩
  rw [hD _ (by decide) (by decide)] at hz
  obtain ⟨q, k, a1, a2, a3, a4, hk3, a5, a6, a7, a8, a9⟩ := e2 hz
  have hl := w.lt (q := q) (by rw [a2]; decide)
  have f1 : mI N 1320 q 0 = mI M 1320 q 0 := h.i hl (hP.no (by decide))
  have f2 : mI N 1321 q 0 = mI M 1321 q 0 := h.i hl (hP.no (by decide))
  have f3 : mI N 1323 q 0 = mI M 1323 q 0 := h.i hl (hq q a1 _ (by decide) (by decide))
  have f4 : mI N 1324 q 0 = mI M 1324 q 0 := h.i hl (hq q a1 _ (by decide) (by decide))
  have f5 : mI N 1325 q 0 = mI M 1325 q 0 := h.i hl (hq q a1 _ (by decide) (by decide))
  have f6 : mI N 1326 q 0 = mI M 1326 q 0 := h.i hl (hq q a1 _ (by decide) (by decide))
  have f7 : mI N 1327 q 0 = mI M 1327 q 0 := h.i hl (hq q a1 _ (by decide) (by decide))
  have f8 : mR N 1322 q 0 = mR M 1322 q 0 := h.r hl (hP.no (by decide))
  refine ⟨q, k, a1, h.kd w a2 (by decide), ?_⟩
  rw [f1, f2, f3, f4, f5, f6, f7, f8, hD _ (by decide) (by decide), hD 16 (by decide) (by decide), hD 14 (by decide) (by decide)]
  refine ⟨a3, a4, hk3, a5, a6, a7, fun h0 hp => ?_, ?_⟩
  · by_cases hk4 : k < 4
    · rw [g_apU_congr (D := D)]
      · exact a8 h0 hp
      · intro j hj
        exact ⟨hR _ _ (by decide) (by decide) (by omega), hR _ _ (by decide) (by decide) (by omega)⟩
    · omega
  · obtain ⟨v, b1, b2, b3⟩ := a9
    have hl2 := w.lt (q := v) (by rw [b2]; decide)
    refine ⟨v, b1, h.kd w b2 (by decide), fun hp => ⟨(h.2.1 _ hl2).2.trans (b3 hp).1, fun j hj => ?_⟩⟩
    obtain ⟨p, p1, p2⟩ := (b3 hp).2 j hj
    refine ⟨p, (h.r hl2 (hw q v a1 b1)).trans p1, ?_⟩
    rw [hR 17 j (by decide) (by decide) (by omega), hR 18 j (by decide) (by decide) (by omega), hR 19 j (by decide) (by decide) (by omega), hR 20 j (by decide) (by decide) (by omega), hR 21 j (by decide) (by decide) (by omega), hR 22 j (by decide) (by decide) (by omega), hR 23 j (by decide) (by decide) (by omega)]
    exact RptOK.fr h hP.imm w p2
theorem NetOK.keep (h : fr P c M N) (hP : mutP P) (w : wf M) (S : skel M b n) (h1 : ¬ P 1065 (b + 1)) (h2 : ¬ P 1066 (b + 1)) (h3 : ¬ P 102 (b + 2)) (hu : E 1666 0 = D 1666 0) (hl : E 1667 0 = D 1667 0) (hm : ∀ k, k < 440 → E 24 k = D 24 k) (u40 : uOK D) (e : NetOK M b D) : NetOK N b E := by
  obtain ⟨e1, e2, e3⟩ := e
  have l1 := w.lt (q := b + 1) (by rw [s_kNet S]; decide)
  have l2 := w.lt (q := b + 2) (by rw [s_kLine S]; decide)
  have hg : g_un E = g_un D := by unfold g_un; rw [hu]
  refine ⟨by rw [h.i l1 h1, hu]; exact e1, by rw [h.i l1 h2, hl]; exact e2, fun k hk => ?_⟩
  rw [hg] at hk
  have hk40 : k < 40 := by
    obtain ⟨u, h4, h5⟩ := u40
    have : g_un D = u := by unfold g_un; rw [h4]; exact cl (by omega)
    omega
  obtain ⟨q, a1, a2⟩ := e3 k hk
  refine ⟨q, (h.r l2 h3).trans a1, ?_⟩
  have := MsgOK.fr h hP.imm w a2
  unfold MsgOK at this ⊢
  dsimp only at this ⊢
  rw [hm _ (by omega), hm _ (by omega), hm _ (by omega), hm _ (by omega), hm _ (by omega), hm _ (by omega), hm _ (by omega), hm _ (by omega), hm _ (by omega), hm _ (by omega), hm _ (by omega)]
  exact this
theorem StoOK.keep (h : fr P c M N) (hP : mutP P) (w : wf M) (S : skel M b n) (hr : r < n) (h1 : ¬ P 100 (aR b n r + 4 + 6 * n)) (h2 : ¬ P 1259 (aR b n r + 3 + 6 * n)) (h3 : ¬ P 1258 (aR b n r + 3 + 6 * n)) (hm : ∀ k, k < 4 → E 2 (4 * r + k) = D 2 (4 * r + k)) (hd : E 3 r = D 3 r) (hs : ∀ i, i < 6 * n → (E 4 (30 * r + i) = 4 ↔ D 4 (30 * r + i) = 4)) (e : StoOK M b n r D) : StoOK N b n r E := by
  obtain ⟨e1, e2, e3⟩ := e
  have l1 := w.lt (q := aR b n r + 4 + 6 * n) (by rw [s_kVals S hr]; decide)
  have l2 := w.lt (q := aR b n r + 3 + 6 * n) (by rw [s_kSto S hr]; decide)
  refine ⟨fun k hk => by rw [h.i l1 h1, hm k hk]; exact e1 k hk, by rw [h.i l2 h2, hd]; exact e2, fun i hi => ?_⟩
  rw [h.i l2 h3, hs i hi]
  exact e3 i hi
end KEEP
