section STEP2
variable {P : Nat → Nat → Prop} {c : Nat} {M N : me_M} {b n r i : Nat} {D E : me_D}
theorem a30 {r i r' i' : Nat} (hi : i < 30) (hi' : i' < 30) (h : 30 * r' + i' = 30 * r + i) : r' = r ∧ i' = i := by omega
/-- one entry changed -/
theorem cW.entc (C : cW M b n D) (hr : r < n) (hi : i < 6 * n) (h : fr P c M N) (hp : ∀ k q, P k q → 1192 ≤ k ∧ k ≤ 1197 ∧ q = aR b n r + 2 + i) (w : wf N) (hE : ∀ j x, ¬ (4 ≤ j ∧ j ≤ 12 ∧ x = 30 * r + i) → E j x = D j x) (hs : E 4 (30 * r + i) = 4 ↔ D 4 (30 * r + i) = 4) (he : EntOK N (aR b n r + 2 + i) E (30 * r + i)) : cW N b n E := by
  have h5 := C.n5
  have hP : mutP P := fun k q z => by
    obtain ⟨h1, h2, -⟩ := hp k q z
    unfold mutK
    simp [h1, h2]
  have no : ∀ k q, (k < 1192 ∨ 1197 < k) → ¬ P k q := fun k q z y => by
    obtain ⟨h1, h2, -⟩ := hp k q y
    omega
  refine ⟨C.1, w, C.sk.fr h C.w hP, fun r' i' hr' hi' => ?_, fun r' i' hr' hi' => ?_, attD.keep C h (fun _ => no _ _ (by decide)), attR.keep C h hP (fun _ => no _ _ (by decide)), ?_, fun r' hr' => ?_, fun r' hr' => ?_, ?_⟩
  · by_cases hx : r' = r ∧ i' = i
    · obtain ⟨rfl, rfl⟩ := hx
      exact he
    · refine EntOK.keep h hP C.w (s_kEnt C.sk hr' hi') (fun k _ _ z => hx ?_) (fun j _ _ => hE j _ (fun z => hx (a30 (by omega) (by omega) z.2.2))) (C.ent hr' hi')
      have := aR_inj (b := b) (r := r') (r' := r) (x := 2 + i') (y := 2 + i) C.1 (by omega) (by omega) (by have := (hp _ _ z).2.2; omega)
      exact ⟨this.1, by omega⟩
  · have l := C.w.lt (q := aR b n r' + 2 + 6 * n) (by rw [s_kAtts C.sk hr']; decide)
    rw [h.r l (no _ _ (by decide))]
    exact AttOK.keep h hP C.w (fun _ _ k h1 h2 => no _ _ (by omega)) (fun _ _ _ _ => no _ _ (by decide)) (fun j h1 h2 => hE j _ (fun z => by omega)) (fun j k h1 h2 _ => hE j _ (fun z => by omega)) (C.att hr' hi')
  · obtain ⟨e1, e2, e3⟩ := C.net
    have l1 := C.w.lt (q := b + 1) (by rw [s_kNet C.sk]; decide)
    have l2 := C.w.lt (q := b + 2) (by rw [s_kLine C.sk]; decide)
    have hg : g_un E = g_un D := by unfold g_un; rw [hE _ _ (fun z => by omega)]
    refine ⟨by rw [h.i l1 (no _ _ (by decide)), hE _ _ (fun z => by omega)]; exact e1, by rw [h.i l1 (no _ _ (by decide)), hE _ _ (fun z => by omega)]; exact e2, fun k hk => ?_⟩
    rw [hg] at hk
    obtain ⟨q, a1, a2⟩ := e3 k hk
    exact ⟨q, (h.r l2 (no _ _ (by decide))).trans a1, (MsgOK.fr h hP.imm C.w a2).congr (fun j _ => hE _ _ (fun z => by omega))⟩
  · refine StoOK.keep h hP C.w C.sk hr' (no _ _ (by decide)) (no _ _ (by decide)) (no _ _ (by decide)) (fun _ _ => hE _ _ (fun z => by omega)) (hE _ _ (fun z => by omega)) (fun i' hi' => ?_) (C.sto hr')
    by_cases hx : 30 * r' + i' = 30 * r + i
    · rw [hx]; exact hs
    · rw [hE _ _ (fun z => hx z.2.2)]
  · rw [h.i (C.w.lt (by rw [s_kRp C.sk hr']; decide)) (no _ _ (by decide)), hE _ _ (fun z => by omega)]; exact C.cr hr'
  · rw [h.i (C.w.lt (by rw [s_kLM C.sk]; decide)) (no _ _ (by decide)), g_manyU_congr (D := D) (fun r _ => hE _ _ (fun z => by omega))]; exact C.many
/-- one attempt changed in place -/
theorem cW.attu (C : cW M b n D) (hr : r < n) (hi : i < 6 * n) {qa : Nat} (hqa : mR M 105 (aR b n r + 2 + 6 * n) i = some qa) (h : fr P c M N) (hp : ∀ k q, P k q → (1323 ≤ k ∧ k ≤ 1327 ∧ q = qa) ∨ (k = 106 ∧ mR M 1322 qa 0 = some q)) (w : wf N) (hE : ∀ j x, ¬ (13 ≤ j ∧ j ≤ 16 ∧ x = 30 * r + i) → ¬ (17 ≤ j ∧ j ≤ 23 ∧ 4 * (30 * r + i) ≤ x ∧ x < 4 * (30 * r + i) + 4) → E j x = D j x) (ha : AttOK N n (some qa) E (30 * r + i)) : cW N b n E := by
  have h5 := C.n5
  have hP : mutP P := fun k q z => by
    unfold mutK
    rcases hp k q z with ⟨h1, h2, -⟩ | ⟨h1, -⟩ <;> simp [*]
  have no : ∀ k q, (k < 106 ∨ (106 < k ∧ k < 1323) ∨ 1327 < k) → ¬ P k q := fun k q z y => by
    rcases hp k q y with ⟨h1, h2, -⟩ | ⟨h1, -⟩ <;> omega
  refine ⟨C.1, w, C.sk.fr h C.w hP, fun r' i' hr' hi' => ?_, fun r' i' hr' hi' => ?_, attD.keep C h (fun _ => no _ _ (by decide)), attR.keep C h hP (fun _ => no _ _ (by decide)), ?_, fun r' hr' => ?_, fun r' hr' => ?_, ?_⟩
  · exact EntOK.keep h hP C.w (s_kEnt C.sk hr' hi') (fun k h1 h2 => no _ _ (by omega)) (fun j h1 h2 => hE j _ (fun z => by omega) (fun z => by omega)) (C.ent hr' hi')
  · have l := C.w.lt (q := aR b n r' + 2 + 6 * n) (by rw [s_kAtts C.sk hr']; decide)
    rw [h.r l (no _ _ (by decide))]
    by_cases hx : r' = r ∧ i' = i
    · obtain ⟨rfl, rfl⟩ := hx
      rw [hqa]
      exact ha
    · have hne : ¬ 30 * r' + i' = 30 * r + i := fun z => hx (a30 (by omega) (by omega) z)
      refine AttOK.keep h hP C.w (fun q hq k h1 h2 z => ?_) (fun q v hq hv z => ?_) (fun j h1 h2 => hE j _ (fun z => hne z.2.2) (fun z => by omega)) (fun j k h1 h2 hk => hE j _ (fun z => by omega) (fun z => by omega)) (C.att hr' hi')
      · rcases hp k q z with ⟨-, -, rfl⟩ | ⟨h3, -⟩
        · exact hx (C.aD r' i' r i q hr' hi' hr hi hq hqa)
        · omega
      · rcases hp _ _ z with ⟨h3, -, -⟩ | ⟨-, h3⟩
        · exact absurd h3 (by decide)
        · exact hx (C.aR' r' i' r i q qa v hr' hi' hr hi hq hqa hv h3)
  · obtain ⟨e1, e2, e3⟩ := C.net
    have l1 := C.w.lt (q := b + 1) (by rw [s_kNet C.sk]; decide)
    have l2 := C.w.lt (q := b + 2) (by rw [s_kLine C.sk]; decide)
    have hg : g_un E = g_un D := by unfold g_un; rw [hE _ _ (fun z => by omega) (fun z => by omega)]
    refine ⟨by rw [h.i l1 (no _ _ (by decide)), hE _ _ (fun z => by omega) (fun z => by omega)]; exact e1, by rw [h.i l1 (no _ _ (by decide)), hE _ _ (fun z => by omega) (fun z => by omega)]; exact e2, fun k hk => ?_⟩
    rw [hg] at hk
    obtain ⟨q, a1, a2⟩ := e3 k hk
    exact ⟨q, (h.r l2 (no _ _ (by decide))).trans a1, (MsgOK.fr h hP.imm C.w a2).congr (fun j _ => hE _ _ (fun z => by omega) (fun z => by omega))⟩
  · exact StoOK.keep h hP C.w C.sk hr' (no _ _ (by decide)) (no _ _ (by decide)) (no _ _ (by decide)) (fun _ _ => hE _ _ (fun z => by omega) (fun z => by omega)) (hE _ _ (fun z => by omega) (fun z => by omega)) (fun i' hi' => by rw [hE _ _ (fun z => by omega) (fun z => by omega)]) (C.sto hr')
  · rw [h.i (C.w.lt (by rw [s_kRp C.sk hr']; decide)) (no _ _ (by decide)), hE _ _ (fun z => by omega) (fun z => by omega)]; exact C.cr hr'
  · rw [h.i (C.w.lt (by rw [s_kLM C.sk]; decide)) (no _ _ (by decide)), g_manyU_congr (D := D) (fun r _ => hE _ _ (fun z => by omega) (fun z => by omega))]; exact C.many
/-- an attempt was made: a new cell qa, its reports in a new cell -/
theorem cW.attn (C : cW M b n D) (hr : r < n) (hi : i < 6 * n) {qa : Nat} (hqa : mR N 105 (aR b n r + 2 + 6 * n) i = some qa) (hnew : mSz M ≤ qa) (hrep : ∀ v, mR N 1322 qa 0 = some v → mSz M ≤ v) (hoth : ∀ j, ¬ j = i → mR N 105 (aR b n r + 2 + 6 * n) j = mR M 105 (aR b n r + 2 + 6 * n) j) (h : fr P c M N) (hp : ∀ k q, P k q → k = 105 ∧ q = aR b n r + 2 + 6 * n) (w : wf N) (hE : ∀ j x, ¬ (13 ≤ j ∧ j ≤ 16 ∧ x = 30 * r + i) → E j x = D j x) (ha : AttOK N n (some qa) E (30 * r + i)) : cW N b n E := by
  have h5 := C.n5
  have hP : mutP P := fun k q z => by rw [(hp k q z).1]; rfl
  have no : ∀ k q, ¬ k = 105 → ¬ P k q := fun k q z y => z (hp k q y).1
  have l : ∀ r, r < n → aR b n r + 2 + 6 * n < mSz M := fun r hr => C.w.lt (by rw [s_kAtts C.sk hr]; decide)
  have ot : ∀ r' i', r' < n → i' < 6 * n → ¬ (r' = r ∧ i' = i) → mR N 105 (aR b n r' + 2 + 6 * n) i' = mR M 105 (aR b n r' + 2 + 6 * n) i' := by
    intro r' i' hr' hi' hx
    by_cases hrr : r' = r
    · subst hrr
      exact hoth i' (fun z => hx ⟨rfl, z⟩)
    · refine h.r (l r' hr') (fun z => hrr ?_)
      exact (aR_inj (b := b) (r := r') (r' := r) (x := 2 + 6 * n) (y := 2 + 6 * n) C.1 (by omega) (by omega) (by have := (hp _ _ z).2; omega)).1
  have old : ∀ r' i' q, r' < n → i' < 6 * n → mR M 105 (aR b n r' + 2 + 6 * n) i' = some q → q < mSz M := fun r' i' q hr' hi' z => C.w.lt (by rw [C.attk hr' hi' z]; decide)
  refine ⟨C.1, w, C.sk.fr h C.w hP, fun r' i' hr' hi' => ?_, fun r' i' hr' hi' => ?_, ?_, ?_, ?_, fun r' hr' => ?_, fun r' hr' => ?_, ?_⟩
  · exact EntOK.keep h hP C.w (s_kEnt C.sk hr' hi') (fun k h1 h2 => no _ _ (by omega)) (fun j h1 h2 => hE j _ (fun z => by omega)) (C.ent hr' hi')
  · by_cases hx : r' = r ∧ i' = i
    · obtain ⟨rfl, rfl⟩ := hx
      rw [hqa]
      exact ha
    · rw [ot r' i' hr' hi' hx]
      have hne : ¬ 30 * r' + i' = 30 * r + i := fun z => hx (a30 (by omega) (by omega) z)
      exact AttOK.keep h hP C.w (fun q hq k h1 h2 => no _ _ (by omega)) (fun q v hq hv => no _ _ (by decide)) (fun j h1 h2 => hE j _ (fun z => hne z.2.2)) (fun j k h1 h2 hk => hE j _ (fun z => by omega)) (C.att hr' hi')
  · intro r1 i1 r2 i2 q h1 h2 h3 h4 e1 e2
    by_cases x1 : r1 = r ∧ i1 = i <;> by_cases x2 : r2 = r ∧ i2 = i
    · exact ⟨x1.1.trans x2.1.symm, x1.2.trans x2.2.symm⟩
    · rw [ot _ _ h3 h4 x2] at e2
      have := old _ _ _ h3 h4 e2
      rw [x1.1, x1.2, hqa] at e1
      cases e1
      omega
    · rw [ot _ _ h1 h2 x1] at e1
      have := old _ _ _ h1 h2 e1
      rw [x2.1, x2.2, hqa] at e2
      cases e2
      omega
    · rw [ot _ _ h1 h2 x1] at e1
      rw [ot _ _ h3 h4 x2] at e2
      exact C.aD r1 i1 r2 i2 q h1 h2 h3 h4 e1 e2
  · have rl : ∀ r' i' q v, r' < n → i' < 6 * n → mR M 105 (aR b n r' + 2 + 6 * n) i' = some q → mR N 1322 q 0 = some v → mR M 1322 q 0 = some v := by
      intro r' i' q v hr' hi' z y
      rw [h.r (old r' i' q hr' hi' z) (no _ _ (by decide))] at y
      exact y
    intro r1 i1 r2 i2 q q' v h1 h2 h3 h4 e1 e2 e3 e4
    by_cases x1 : r1 = r ∧ i1 = i <;> by_cases x2 : r2 = r ∧ i2 = i
    · exact ⟨x1.1.trans x2.1.symm, x1.2.trans x2.2.symm⟩
    · rw [ot _ _ h3 h4 x2] at e2
      have := C.attw h3 h4 e2 (rl _ _ _ _ h3 h4 e2 e4)
      rw [x1.1, x1.2, hqa] at e1
      cases e1
      have := hrep v e3
      omega
    · rw [ot _ _ h1 h2 x1] at e1
      have := C.attw h1 h2 e1 (rl _ _ _ _ h1 h2 e1 e3)
      rw [x2.1, x2.2, hqa] at e2
      cases e2
      have := hrep v e4
      omega
    · rw [ot _ _ h1 h2 x1] at e1
      rw [ot _ _ h3 h4 x2] at e2
      exact C.aR' r1 i1 r2 i2 q q' v h1 h2 h3 h4 e1 e2 (rl _ _ _ _ h1 h2 e1 e3) (rl _ _ _ _ h3 h4 e2 e4)
  · obtain ⟨e1, e2, e3⟩ := C.net
    have l1 := C.w.lt (q := b + 1) (by rw [s_kNet C.sk]; decide)
    have l2 := C.w.lt (q := b + 2) (by rw [s_kLine C.sk]; decide)
    have hg : g_un E = g_un D := by unfold g_un; rw [hE _ _ (fun z => by omega)]
    refine ⟨by rw [h.i l1 (no _ _ (by decide)), hE _ _ (fun z => by omega)]; exact e1, by rw [h.i l1 (no _ _ (by decide)), hE _ _ (fun z => by omega)]; exact e2, fun k hk => ?_⟩
    rw [hg] at hk
    obtain ⟨q, a1, a2⟩ := e3 k hk
    exact ⟨q, (h.r l2 (no _ _ (by decide))).trans a1, (MsgOK.fr h hP.imm C.w a2).congr (fun j _ => hE _ _ (fun z => by omega))⟩
  · exact StoOK.keep h hP C.w C.sk hr' (no _ _ (by decide)) (no _ _ (by decide)) (no _ _ (by decide)) (fun _ _ => hE _ _ (fun z => by omega)) (hE _ _ (fun z => by omega)) (fun i' hi' => by rw [hE _ _ (fun z => by omega)]) (C.sto hr')
  · rw [h.i (C.w.lt (by rw [s_kRp C.sk hr']; decide)) (no _ _ (by decide)), hE _ _ (fun z => by omega)]; exact C.cr hr'
  · rw [h.i (C.w.lt (by rw [s_kLM C.sk]; decide)) (no _ _ (by decide)), g_manyU_congr (D := D) (fun r _ => hE _ _ (fun z => by omega))]; exact C.many
end STEP2
