section EXEC3
variable {c : Nat} {M N : me_M} {b n r i : Nat} {D E : me_D}
theorem g_act_o {j x : Nat} (h1 : ¬ ((j = 12 ∨ j = 4 ∨ j = 11) ∧ x = 30 * r + i)) (h2 : ¬ (j = 2 ∧ 4 * r ≤ x ∧ x < 4 * r + 4)) (h3 : ¬ (j = 3 ∧ x = r)) : g_act D r i j x = D j x := by
  obtain ⟨e, he, h⟩ := and3 (D 5 (30 * r + i))
  have hc : g_cellOf D r (30 * r + i) = 4 * r + e := by unfold g_cellOf; rw [h, cl (by omega)]
  unfold g_act
  rw [hc]
  have a1 : ¬ (j = 12 ∧ x = 30 * r + i) := fun z => h1 ⟨Or.inl z.1, z.2⟩
  have a2 : ¬ (j = 4 ∧ x = 30 * r + i) := fun z => h1 ⟨Or.inr (Or.inl z.1), z.2⟩
  have a3 : ¬ (j = 11 ∧ x = 30 * r + i) := fun z => h1 ⟨Or.inr (Or.inr z.1), z.2⟩
  have a4 : ¬ (j = 2 ∧ x = 4 * r + e) := fun z => h2 ⟨z.1, by omega, by omega⟩
  split <;> simp only [dU_at, if_neg a1, if_neg a2, if_neg a3, if_neg a4, if_neg h3]
theorem g_act_st : g_act D r i 4 (30 * r + i) = 4 := by
  unfold g_act
  rw [dU_ne _ (by decide), dU_ne _ (by decide), dU_at, if_pos ⟨rfl, rfl⟩]
theorem g_act_pl : g_act D r i 11 (30 * r + i) = D 3 r := by
  unfold g_act
  rw [dU_ne _ (by decide), dU_at, if_pos ⟨rfl, rfl⟩]
theorem g_act_dn : g_act D r i 3 r = D 3 r + 1 := by
  unfold g_act
  rw [dU_at, if_pos ⟨rfl, rfl⟩]
theorem g_act_rs : g_act D r i 12 (30 * r + i) = if D 5 (30 * r + i) = 8 then 0 else D 2 (g_cellOf D r (30 * r + i)) := by
  unfold g_act
  rw [dU_ne _ (by decide), dU_ne _ (by decide), dU_ne _ (by decide)]
  split <;> simp [dU_at]
theorem g_act_mp (x : Nat) : g_act D r i 2 x = if (4 ≤ D 5 (30 * r + i) ∧ D 5 (30 * r + i) < 8) ∧ x = g_cellOf D r (30 * r + i) then D 6 (30 * r + i) else D 2 x := by
  unfold g_act
  rw [dU_ne _ (by decide), dU_ne _ (by decide), dU_ne _ (by decide)]
  split
  · next h =>
    rw [dU_at, dU_ne _ (by decide)]
    by_cases hx : x = g_cellOf D r (30 * r + i)
    · rw [if_pos ⟨rfl, hx⟩, if_pos ⟨h, hx⟩]
    · rw [if_neg (fun z => hx z.2), if_neg (fun z => hx z.2)]
  · next h => rw [dU_ne _ (by decide), if_neg (fun z => h z.1)]
def pEx (b n r i k q : Nat) : Prop := (1192 ≤ k ∧ k ≤ 1197 ∧ q = aR b n r + 2 + i) ∨ (k = 100 ∧ q = aR b n r + 4 + 6 * n) ∨ ((k = 1259 ∨ k = 1258) ∧ q = aR b n r + 3 + 6 * n)
theorem pEx_mut : mutP (pEx b n r i) := fun k q z => by
  unfold mutK
  rcases z with ⟨h1, h2, -⟩ | ⟨h1, -⟩ | ⟨h1 | h1, -⟩ <;> simp [*]
/-- one entry executed -/
theorem cW.exe (C : cW M b n D) (hr : r < n) (hi : i < 6 * n) (h : fr (pEx b n r i) c M N) (w : wf N) (he : EntOK N (aR b n r + 2 + i) (g_act D r i) (30 * r + i)) (hm : ∀ k, k < 4 → mI N 100 (aR b n r + 4 + 6 * n) k = g_act D r i 2 (4 * r + k)) (hd : mI N 1259 (aR b n r + 3 + 6 * n) 0 = D 3 r + 1) (hs : ∀ j, j < 6 * n → (bt (mI N 1258 (aR b n r + 3 + 6 * n) 0) j = true ↔ g_act D r i 4 (30 * r + j) = 4)) : cW N b n (g_act D r i) := by
  have h5 := C.n5
  have S := C.sk
  have hP := pEx_mut (b := b) (n := n) (r := r) (i := i)
  have no : ∀ k q, ¬ k = 100 → (k < 1192 ∨ 1197 < k) → ¬ k = 1259 → ¬ k = 1258 → ¬ pEx b n r i k q := fun k q z1 z2 z3 z4 y => by
    rcases y with ⟨h1, h2, -⟩ | ⟨h1, -⟩ | ⟨h1 | h1, -⟩ <;> omega
  have gE : ∀ r' i', ¬ (r' = r ∧ i' = i) → i' < 6 * n → ∀ j, ¬ j = 2 → ¬ j = 3 → g_act D r i j (30 * r' + i') = D j (30 * r' + i') := fun r' i' hx hi' j h1 h2 =>
    g_act_o (fun z => hx (a30 (by omega) (by omega) z.2)) (fun z => h1 z.1) (fun z => h2 z.1)
  have gO : ∀ j x, ¬ j = 12 → ¬ j = 2 → ¬ j = 4 → ¬ j = 11 → ¬ j = 3 → g_act D r i j x = D j x := fun j x h1 h2 h3 h4 h5 => g_act_ne h1 h2 h3 h4 h5
  refine ⟨C.1, w, S.fr h C.w hP, fun r' i' hr' hi' => ?_, fun r' i' hr' hi' => ?_, attD.keep C h (fun _ => no _ _ (by decide) (by decide) (by decide) (by decide)), attR.keep C h hP (fun _ => no _ _ (by decide) (by decide) (by decide) (by decide)), ?_, fun r' hr' => ?_, fun r' hr' => ?_, ?_⟩
  · by_cases hx : r' = r ∧ i' = i
    · obtain ⟨rfl, rfl⟩ := hx
      exact he
    · refine EntOK.keep h hP C.w (s_kEnt S hr' hi') (fun k k1 k2 z => hx ?_) (fun j j1 j2 => gE r' i' hx hi' j (fun z => by omega) (fun z => by omega)) (C.ent hr' hi')
      rcases z with ⟨-, -, z⟩ | ⟨z, -⟩ | ⟨z | z, -⟩
      · have := aR_inj (b := b) (r := r') (r' := r) (x := 2 + i') (y := 2 + i) C.1 (by omega) (by omega) (by omega)
        exact ⟨this.1, by omega⟩
      · omega
      · omega
      · omega
  · have l := C.w.lt (q := aR b n r' + 2 + 6 * n) (by rw [s_kAtts S hr']; decide)
    rw [h.r l (no _ _ (by decide) (by decide) (by decide) (by decide))]
    exact AttOK.keep h hP C.w (fun _ _ k h1 h2 => no _ _ (by omega) (by omega) (by omega) (by omega)) (fun _ _ _ _ => no _ _ (by decide) (by decide) (by decide) (by decide)) (fun j h1 h2 => gO j _ (by omega) (by omega) (by omega) (by omega) (by omega)) (fun j k h1 h2 _ => gO j _ (by omega) (by omega) (by omega) (by omega) (by omega)) (C.att hr' hi')
  · obtain ⟨e1, e2, e3⟩ := C.net
    have l1 := C.w.lt (q := b + 1) (by rw [s_kNet S]; decide)
    have l2 := C.w.lt (q := b + 2) (by rw [s_kLine S]; decide)
    have hg : g_un (g_act D r i) = g_un D := by unfold g_un; rw [gO _ _ (by decide) (by decide) (by decide) (by decide) (by decide)]
    refine ⟨by rw [h.i l1 (no _ _ (by decide) (by decide) (by decide) (by decide)), gO _ _ (by decide) (by decide) (by decide) (by decide) (by decide)]; exact e1, by rw [h.i l1 (no _ _ (by decide) (by decide) (by decide) (by decide)), gO _ _ (by decide) (by decide) (by decide) (by decide) (by decide)]; exact e2, fun k hk => ?_⟩
    rw [hg] at hk
    obtain ⟨q, a1, a2⟩ := e3 k hk
    exact ⟨q, (h.r l2 (no _ _ (by decide) (by decide) (by decide) (by decide))).trans a1, (MsgOK.fr h hP.imm C.w a2).congr (fun j _ => gO _ _ (by decide) (by decide) (by decide) (by decide) (by decide))⟩
  · by_cases hx : r' = r
    · subst hx
      exact ⟨hm, by rw [g_act_dn]; exact hd, hs⟩
    · refine StoOK.keep h hP C.w S hr' (fun z => hx ?_) (fun z => hx ?_) (fun z => hx ?_) (fun k hk => g_act_o (fun z => by rcases z.1 with y | y | y <;> exact absurd y (by decide)) (fun z => by omega) (fun z => absurd z.1 (by decide))) (g_act_o (fun z => by rcases z.1 with y | y | y <;> exact absurd y (by decide)) (fun z => absurd z.1 (by decide)) (fun z => hx z.2)) (fun i' hi' => by rw [gE r' i' (fun z => hx z.1) hi' _ (by decide) (by decide)]) (C.sto hr')
      · rcases z with ⟨z, -⟩ | ⟨-, z⟩ | ⟨z | z, -⟩
        · exact absurd z (by decide)
        · exact (aR_inj (b := b) (r := r') (r' := r) (x := 4 + 6 * n) (y := 4 + 6 * n) C.1 (by omega) (by omega) (by omega)).1
        · exact absurd z (by decide)
        · exact absurd z (by decide)
      · rcases z with ⟨z1, z2, -⟩ | ⟨z, -⟩ | ⟨-, z⟩
        · exact absurd z2 (by decide)
        · exact absurd z (by decide)
        · exact (aR_inj (b := b) (r := r') (r' := r) (x := 3 + 6 * n) (y := 3 + 6 * n) C.1 (by omega) (by omega) (by omega)).1
      · rcases z with ⟨z1, z2, -⟩ | ⟨z, -⟩ | ⟨-, z⟩
        · exact absurd z2 (by decide)
        · exact absurd z (by decide)
        · exact (aR_inj (b := b) (r := r') (r' := r) (x := 3 + 6 * n) (y := 3 + 6 * n) C.1 (by omega) (by omega) (by omega)).1
  · rw [h.i (C.w.lt (by rw [s_kRp S hr']; decide)) (no _ _ (by decide) (by decide) (by decide) (by decide)), gO _ _ (by decide) (by decide) (by decide) (by decide) (by decide)]; exact C.cr hr'
  · rw [h.i (C.w.lt (by rw [s_kLM S]; decide)) (no _ _ (by decide) (by decide) (by decide) (by decide)), g_manyU_congr (D := D) (fun r _ => gO _ _ (by decide) (by decide) (by decide) (by decide) (by decide))]; exact C.many
theorem kf0 : ∀ key, key < 4 → ¬ nI key = 8 ∧ ¬ (4 ≤ nI key ∧ nI key < 8) ∧ (nI key &&& 3).toNatClampNeg = key := by decide +kernel
theorem kf1 : ∀ key, key < 4 → ¬ nI (4 + key) = 8 ∧ (4 ≤ nI (4 + key) ∧ nI (4 + key) < 8) ∧ (nI (4 + key) &&& 3).toNatClampNeg = key := by decide +kernel
def aftE (M : me_M) (b n r i : Nat) (D : me_D) (N : me_M) : Prop := ∀ v, v = mI N 1258 (aR b n r + 3 + 6 * n) 0 ||| (1 <<< (nI i &&& 31)) → cW (mSetI N 1258 (aR b n r + 3 + 6 * n) 0 v) b n (g_act D r i) ∧ fr (pEx b n r i) 0 M (mSetI N 1258 (aR b n r + 3 + 6 * n) 0 v)
theorem exe_tail (C : cW M b n D) (hr : r < n) (hi : i < 6 * n) (hst : ¬ D 4 (30 * r + i) = 0) {K : me_M} (hf : fr (pEx b n r i) 0 M K) (wK : wf K) (k0 : mR K 1193 (aR b n r + 2 + i) 0 = mR M 1193 (aR b n r + 2 + i) 0) (k1 : mI K 1196 (aR b n r + 2 + i) 0 = g_act D r i 12 (30 * r + i)) (k2 : ∀ k, k < 4 → mI K 100 (aR b n r + 4 + 6 * n) k = g_act D r i 2 (4 * r + k)) (k3 : ∀ k q x, ¬ k = 1196 → ¬ k = 100 → mI K k q x = mI M k q x) : ∀ M16, M16 = mSetI K 1192 (aR b n r + 2 + i) 0 4 → ∀ M17, M17 = mSetI M16 1197 (aR b n r + 2 + i) 0 (mI M16 1259 (aR b n r + 3 + 6 * n) 0) → ∀ M18, M18 = mSetI M17 1259 (aR b n r + 3 + 6 * n) 0 (mI M17 1259 (aR b n r + 3 + 6 * n) 0 + 1) → aftE M b n r i D M18 := by
  rintro _ rfl _ rfl _ rfl v rfl
  have n5 := C.n5
  have S := C.sk
  have E0 := C.ent hr hi
  have T0 := C.sto hr
  have le : aR b n r + 2 + i < mSz K := Nat.lt_of_lt_of_le (C.w.lt (by rw [s_kEnt S hr hi]; decide)) hf.1.1
  have ls : aR b n r + 3 + 6 * n < mSz K := Nat.lt_of_lt_of_le (C.w.lt (by rw [s_kSto S hr]; decide)) hf.1.1
  have c1 : mI K 1259 (aR b n r + 3 + 6 * n) 0 = D 3 r := (k3 _ _ _ (by decide) (by decide)).trans T0.2.1
  have c2 : mI K 1258 (aR b n r + 3 + 6 * n) 0 = mI M 1258 (aR b n r + 3 + 6 * n) 0 := k3 _ _ _ (by decide) (by decide)
  have c3 : mI K 1194 (aR b n r + 2 + i) 0 = D 9 (30 * r + i) := (k3 _ _ _ (by decide) (by decide)).trans E0.2.1
  have c4 : mI K 1195 (aR b n r + 2 + i) 0 = D 10 (30 * r + i) := (k3 _ _ _ (by decide) (by decide)).trans E0.2.2.1
  have p1 : pEx b n r i 1192 (aR b n r + 2 + i) := Or.inl ⟨by decide, by decide, rfl⟩
  have p2 : pEx b n r i 1197 (aR b n r + 2 + i) := Or.inl ⟨by decide, by decide, rfl⟩
  have p3 : pEx b n r i 1259 (aR b n r + 3 + 6 * n) := Or.inr (Or.inr ⟨Or.inl rfl, rfl⟩)
  have p4 : pEx b n r i 1258 (aR b n r + 3 + 6 * n) := Or.inr (Or.inr ⟨Or.inr rfl, rfl⟩)
  simp only [mI_SetI, c1, c2, Nat.reduceEqDiff, false_and, and_self, if_true, if_false, and_true, true_and]
  have F := (((hf.setI (v := 4) (i := 0) (fun _ => p1)).setI (v := D 3 r) (i := 0) (fun _ => p2)).setI (v := D 3 r + 1) (i := 0) (fun _ => p3)).setI (v := mI M 1258 (aR b n r + 3 + 6 * n) 0 ||| (1 <<< (nI i &&& 31))) (i := 0) (fun _ => p4)
  refine ⟨C.exe hr hi F ?_ ⟨?_, ?_, ?_, ?_, ?_, fun z => ?_, fun _ => ?_⟩ (fun k hk => ?_) ?_ (fun j hj => ?_), F⟩
  · exact (((wK.setI le).setI le).setI ls).setI ls
  · rw [g_act_st]; simp only [mI_SetI, Nat.reduceEqDiff, false_and, and_self, if_true, if_false]
  · rw [g_act_ne (by decide) (by decide) (by decide) (by decide) (by decide), ← c3]; simp only [mI_SetI, Nat.reduceEqDiff, false_and, and_self, if_true, if_false]
  · rw [g_act_ne (by decide) (by decide) (by decide) (by decide) (by decide), ← c4]; simp only [mI_SetI, Nat.reduceEqDiff, false_and, and_self, if_true, if_false]
  · rw [← k1]; simp only [mI_SetI, Nat.reduceEqDiff, false_and, and_self, if_true, if_false]
  · rw [g_act_pl]; simp only [mI_SetI, Nat.reduceEqDiff, false_and, and_self, if_true, if_false]
  · rw [g_act_st] at z; exact absurd z (by decide)
  · have := OrdR.fr F pEx_mut.imm C.w (E0.2.2.2.2.2.2 hst)
    rw [g_act_ne (by decide) (by decide) (by decide) (by decide) (by decide), g_act_ne (by decide) (by decide) (by decide) (by decide) (by decide), g_act_ne (by decide) (by decide) (by decide) (by decide) (by decide), g_act_ne (by decide) (by decide) (by decide) (by decide) (by decide)]
    rw [← k0] at this
    exact this
  · rw [← k2 k hk]; simp only [mI_SetI, Nat.reduceEqDiff, false_and, and_self, if_true, if_false]
  · simp only [mI_SetI, Nat.reduceEqDiff, false_and, and_self, if_true, if_false]
  · simp only [mI_SetI, Nat.reduceEqDiff, false_and, and_self, if_true, if_false]
    rw [b_or, bt_s (by omega) (by omega), Bool.or_eq_true, decide_eq_true_iff, T0.2.2 j hj]
    by_cases hx : j = i
    · subst hx; rw [g_act_st]; exact ⟨fun _ => rfl, fun _ => Or.inr rfl⟩
    · rw [g_act_o (fun z => hx (by omega)) (fun z => absurd z.1 (by decide)) (fun z => absurd z.1 (by decide))]
      exact ⟨fun z => z.elim id (fun y => absurd y hx), Or.inl⟩
end EXEC3
