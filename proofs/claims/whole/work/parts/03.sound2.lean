section SND
variable {p : Program} {l : Launch} {e : Env} {R : Room} {s : State} {m : MethodId} {args : Array Value} {below : List Frame} {meth : Method} {c : Code} {Q : State → Prop}
variable {G : me_G} {nL sz0 sl0 : Nat} {H0 : Heap} {X : me_X} {v : Option me_V} {N : me_M} {el : Nat → Nat} {own : String}

def me_TA (G : me_G) (own : String) (args : Array Value) (s : State) (tab : Nat → Option Nat) : Prop := ∀ idx a, tab idx = some a → idx < 70000 → 102 ≤ a ∧ ∃ (C : String) (cA : ClassId), (gT G)[a - 100]? = some (cA, .object C) ∧ (Cond.classLink own idx C).before args s = true ∧ (Cond.arrayOver (.object C)).before args s = true
theorem so_newR (hx : p.tables.exec = Jvm.exec) (hb : c.code = xC X) (hown : s.vm.findClass own = some m.cls) (hK : va_K (gD G) (gC G) (gT G) s) (hRc : mSz N - sz0 ≤ R.cells) (hRs : mSl N - sl0 ≤ R.slots) (hT : me_TA G own args s (xA X)) : me_rule el X v N (me_JW p l e R s m args below meth c Q G nL sz0 sl0 H0 N) 58 := by
  intro pc ls st M n idx a d hf hi hn hb2 kk
  have k1 : mSz M + 1 ≤ mSz N := kk.1
  have k2 : mSl M + n.toNatClampNeg ≤ mSl N := kk.2.1
  refine ⟨by omega, by omega, fun H locs la a1 a2 a3 a4 a5 a6 a7 => ?_⟩
  obtain ⟨t1, C, c0, hc0, t2, t3⟩ := hT _ _ hf hi
  refine W.anew hx hb hown t2 t3 rfl d rfl hn (by omega) (by omega) (by omega) fun cA kA comp f1 f2 f3 f4 => ?_
  have hcc : cA = c0 := by
    obtain ⟨kA', comp', g1, g2, g3, g4⟩ := (hK.2 _ _ hc0).2
    exact Option.some.inj (f1.symm.trans g4)
  subst hcc
  generalize hH1 : H.push ({ cls := cA, slots := Array.replicate n.toNatClampNeg .null, vm := .none } : Cell) = H1
  have z1 : H1.size = H.size + 1 := by rw [← hH1, Array.size_push]
  have e1 : H1[H.size]? = some (arrV cA n.toNatClampNeg (fun _ => .null)) := by rw [← hH1, Array.getElem?_push_size, ← arrV_new]
  have o1 : ∀ q', q' < H.size → H1[q']? = H[q']? := by
    intro q' hq'
    rw [← hH1, Array.getElem?_push, if_neg (Nat.ne_of_lt hq')]
  rw [a3.1] at e1
  refine W.eq (g2 := F0 m (pc + 3) la (.ref (mSz M) :: st.map me_v)) (by rw [a3.1]) ?_
  refine W.cs (cells' := mSz (mNew M a n.toNatClampNeg n.toNatClampNeg) - sz0) (slots' := mSl (mNew M a n.toNatClampNeg n.toNatClampNeg) - sl0) (by rw [mSz_New]; omega) (by rw [mSl_New]; omega) ?_
  refine kk.2.2 H1 locs la (by rw [mSz_New]; omega) (by rw [mSl_New]; omega) (a3.made a n.toNatClampNeg n.toNatClampNeg z1 o1 ⟨fun ci' h' h2' => ?_, fun h' => ?_⟩) (fun q' hq' => ?_) a5 a6 a7
  · rw [mKd_New, if_pos rfl] at h'
    omega
  · refine ⟨_, (show (gT G)[mKd (mNew M a n.toNatClampNeg n.toNatClampNeg) (mSz M) - 100]? = some (cA, .object C) from ?_), ?_⟩
    · rw [mKd_New, if_pos rfl]; exact hc0
    · rw [e1, mLn_New, if_pos rfl, mKd_New, if_pos rfl]
      obtain ⟨-, hfr⟩ := a3.2.2.1 (mSz M) (Nat.le_refl _)
      congr 2
      funext j
      unfold me_av
      rw [if_pos t1, mR_New, (hfr _ j).2]
      rfl
  · have := a3.2.2.2.2
    rw [o1 q' (by rw [a3.1]; omega)]
    exact a4 q' hq'
/-- an array's cell -/
theorem me_arr (hK : va_K (gD G) (gC G) (gT G) s) {M : me_M} {H : Heap} (h : me_H G M H) {q : Nat} (hq : 100 ≤ mKd M q) : ∃ t : ClassId × FieldType, (gT G)[mKd M q - 100]? = some t ∧ ArrOfT s t.1 t.2 ∧ va_RA s t.1 t.2 ∧ H[q]? = some (arrV t.1 (mLn M q) (fun j => me_v (me_av M (mKd M q) q j))) := by
  obtain ⟨t, h1, h2⟩ := (h.2.1 q).2 hq
  exact ⟨t, h1, (hK.2 _ _ h1).1, (hK.2 _ _ h1).2, h2⟩
theorem so_alen (hx : p.tables.exec = Jvm.exec) (hb : c.code = xC X) (hK : va_K (gD G) (gC G) (gT G) s) : me_rule el X v N (me_JW p l e R s m args below meth c Q G nL sz0 sl0 H0 N) 59 := by
  intro pc ls st M q d hk kk
  refine ⟨kk.1, kk.2.1, fun H locs la a1 a2 a3 a4 a5 a6 a7 => ?_⟩
  obtain ⟨t, h1, h2, h3, h4⟩ := me_arr hK a3 hk
  exact W.alen (n := Int32.ofNat (mLn M q)) hx hb h4 (h2 _ _) (by rw [arrV_size] <;> rfl) rfl rfl d (kk.2.2 H locs la a1 a2 a3 a4 a5 a6 a7)
theorem so_iald (hx : p.tables.exec = Jvm.exec) (hb : c.code = xC X) (hK : va_K (gD G) (gC G) (gT G) s) (hAT : me_AT G el) : me_rule el X v N (me_JW p l e R s m args below meth c Q G nL sz0 sl0 H0 N) 60 := by
  intro pc ls st M q i d hk hi kk
  refine ⟨kk.1, kk.2.1, fun H locs la a1 a2 a3 a4 a5 a6 a7 => ?_⟩
  obtain ⟨t, h1, h2, h3, h4⟩ := me_arr hK a3 (q := q) (by omega)
  obtain ⟨c0, hc0⟩ := hAT.1
  rw [hk] at h1 h4
  cases h1.symm.trans hc0
  have hlt : i.toNatClampNeg < mLn M q := Nat.not_le.mp fun z => hi (Or.inr z)
  exact W.iald (v := .int (mI M 100 q i.toNatClampNeg)) hx hb h4 (h2 _ _) (fun z => by cases z) (by rw [arrV_size]; exact hi) (by rw [arrV_read _ _ hlt]; rfl) rfl rfl d (kk.2.2 H locs la a1 a2 a3 a4 a5 a6 a7)
theorem so_zald (hx : p.tables.exec = Jvm.exec) (hb : c.code = xC X) (hK : va_K (gD G) (gC G) (gT G) s) (hAT : me_AT G el) : me_rule el X v N (me_JW p l e R s m args below meth c Q G nL sz0 sl0 H0 N) 62 := by
  intro pc ls st M q i d hk hi kk
  refine ⟨kk.1, kk.2.1, fun H locs la a1 a2 a3 a4 a5 a6 a7 => ?_⟩
  obtain ⟨t, h1, h2, h3, h4⟩ := me_arr hK a3 (q := q) (by omega)
  obtain ⟨c0, hc0⟩ := hAT.2.1
  rw [hk] at h1 h4
  cases h1.symm.trans hc0
  have hlt : i.toNatClampNeg < mLn M q := Nat.not_le.mp fun z => hi (Or.inr z)
  exact W.zald (v := .int (mI M 101 q i.toNatClampNeg)) hx hb h4 (h2 _ _) (fun z => by cases z) (by rw [arrV_size]; exact hi) (by rw [arrV_read _ _ hlt]; rfl) rfl rfl d (kk.2.2 H locs la a1 a2 a3 a4 a5 a6 a7)
theorem so_iast (hx : p.tables.exec = Jvm.exec) (hb : c.code = xC X) (hK : va_K (gD G) (gC G) (gT G) s) (hAT : me_AT G el) : me_rule el X v N (me_JW p l e R s m args below meth c Q G nL sz0 sl0 H0 N) 61 := by
  intro pc ls st M q i x d hk hi kk
  refine ⟨kk.1, kk.2.1, fun H locs la a1 a2 a3 a4 a5 a6 a7 => ?_⟩
  obtain ⟨t, h1, h2, h3, h4⟩ := me_arr hK a3 (q := q) (by omega)
  obtain ⟨c0, hc0⟩ := hAT.1
  rw [hk] at h1 h4
  cases h1.symm.trans hc0
  refine W.iast hx hb h4 (h2 _ _) (fun z => by cases z) (by rw [arrV_size]; exact hi) rfl rfl d fun H1 e1 e2 e3 => ?_
  · skip
    refine kk.2.2 H1 _ la a1 a2 (a3.write q (by omega) rfl rfl rfl ?_ ?_ e2 e3 ?_) (fun q' hq' => ?_) ?_ a6 a7
    · intro k' q' i' hne; simp [mSetI, mSetR, mI, hne]
    · intro k' q' i' hne; simp [mSetI, mSetR, mR, hne]
    · refine ⟨fun ci' hk' h2' => ?_, fun hk' => ?_⟩
      · have h0 : mKd M q = ci' + 1 := hk'
        omega
      · have h0 : mKd (mSetI M 100 q i.toNatClampNeg x) q = 100 := hk
        refine ⟨_, (by rw [h0]; exact h1), ?_⟩
        rw [e1, h0, arrV_store]
        congr 2
        funext j
        by_cases hj : j = i.toNatClampNeg
        · subst hj
          simp [updV, me_av, mSetI, mSetR, mI, mR]
        · simp [updV, me_av, mSetI, mSetR, mI, mR, hj]
    · have := a3.2.2.2.1 q (by omega)
      rw [e3 q' (Nat.ne_of_lt (Nat.lt_of_lt_of_le hq' this))]
      exact a4 q' hq'
    · intro q' hq'
      rcases List.mem_append.mp hq' with h | h
      · exact a5 q' h
      · rw [List.mem_singleton.mp h]
        exact a3.2.2.2.1 q (by omega)
theorem so_zast (hx : p.tables.exec = Jvm.exec) (hb : c.code = xC X) (hK : va_K (gD G) (gC G) (gT G) s) (hAT : me_AT G el) : me_rule el X v N (me_JW p l e R s m args below meth c Q G nL sz0 sl0 H0 N) 63 := by
  intro pc ls st M q i x d hk hi hz kk
  refine ⟨kk.1, kk.2.1, fun H locs la a1 a2 a3 a4 a5 a6 a7 => ?_⟩
  obtain ⟨t, h1, h2, h3, h4⟩ := me_arr hK a3 (q := q) (by omega)
  obtain ⟨c0, hc0⟩ := hAT.2.1
  rw [hk] at h1 h4
  cases h1.symm.trans hc0
  have hnz : narrow .boolean (.int x) = .int x := by rcases hz with rfl | rfl <;> rfl
  refine W.zast hx hb h4 (h2 _ _) (fun z => by cases z) (by rw [arrV_size]; exact hi) rfl rfl d fun H1 e1 e2 e3 => ?_
  · rw [hnz] at e1
    refine kk.2.2 H1 _ la a1 a2 (a3.write q (by omega) rfl rfl rfl ?_ ?_ e2 e3 ?_) (fun q' hq' => ?_) ?_ a6 a7
    · intro k' q' i' hne; simp [mSetI, mSetR, mI, hne]
    · intro k' q' i' hne; simp [mSetI, mSetR, mR, hne]
    · refine ⟨fun ci' hk' h2' => ?_, fun hk' => ?_⟩
      · have h0 : mKd M q = ci' + 1 := hk'
        omega
      · have h0 : mKd (mSetI M 101 q i.toNatClampNeg x) q = 101 := hk
        refine ⟨_, (by rw [h0]; exact h1), ?_⟩
        rw [e1, h0, arrV_store]
        congr 2
        funext j
        by_cases hj : j = i.toNatClampNeg
        · subst hj
          simp [updV, me_av, mSetI, mSetR, mI, mR]
        · simp [updV, me_av, mSetI, mSetR, mI, mR, hj]
    · have := a3.2.2.2.1 q (by omega)
      rw [e3 q' (Nat.ne_of_lt (Nat.lt_of_lt_of_le hq' this))]
      exact a4 q' hq'
    · intro q' hq'
      rcases List.mem_append.mp hq' with h | h
      · exact a5 q' h
      · rw [List.mem_singleton.mp h]
        exact a3.2.2.2.1 q (by omega)
theorem so_aald (hx : p.tables.exec = Jvm.exec) (hb : c.code = xC X) (hK : va_K (gD G) (gC G) (gT G) s) (hAT : me_AT G el) : me_rule el X v N (me_JW p l e R s m args below meth c Q G nL sz0 sl0 H0 N) 64 := by
  intro pc ls st M q a i d hk ha hi kk
  refine ⟨kk.1, kk.2.1, fun H locs la a1 a2 a3 a4 a5 a6 a7 => ?_⟩
  obtain ⟨t, h1, h2, h3, h4⟩ := me_arr hK a3 (q := q) (by omega)
  rw [hk] at h1 h4
  obtain ⟨ci, r, g1, g2, g3, g4⟩ := hAT.2.2 _ _ (by omega) h1
  have hlt : i.toNatClampNeg < mLn M q := Nat.not_le.mp fun z => hi (Or.inr z)
  refine W.aald (v := va_rf (mR M a q i.toNatClampNeg)) (ty := t.2) hx hb h4 (h2 _ _) (by rw [g4]; rfl) (fun z => by cases z) (by rw [arrV_size]; exact hi) ?_ rfl rfl d (kk.2.2 H locs la a1 a2 a3 a4 a5 a6 a7)
  rw [arrV_read _ _ hlt]
  unfold me_av
  rw [if_pos ha]
theorem so_aast (hx : p.tables.exec = Jvm.exec) (hb : c.code = xC X) (hK : va_K (gD G) (gC G) (gT G) s) (hAT : me_AT G el) : me_rule el X v N (me_JW p l e R s m args below meth c Q G nL sz0 sl0 H0 N) 65 := by
  intro pc ls st M q a w i d hk ha hi hw kk
  refine ⟨kk.1, kk.2.1, fun H locs la a1 a2 a3 a4 a5 a6 a7 => ?_⟩
  obtain ⟨t, h1, h2, h3, h4⟩ := me_arr hK a3 (q := q) (by omega)
  rw [hk] at h1 h4
  obtain ⟨ci, r, g1, g2, g3, g4⟩ := hAT.2.2 _ _ (by omega) h1
  have hlt : i.toNatClampNeg < mLn M q := Nat.not_le.mp fun z => hi (Or.inr z)
  have hi0 : ¬ i < 0 := fun z => hi (Or.inl z)
  rw [show 100 + (a - 100) = a by omega] at g2
  obtain ⟨r', b1, cell, q1, q2, q3, q4⟩ := (a3.2.1 w).1 ci (by rw [hw, g2]) g1
  have hcls := (hK.1 ci r g3).2
  obtain ⟨tc, tf⟩ := t
  subst g4
  obtain ⟨kA, comp, k1, k2, k3, -⟩ := h3
  have hcomp : comp = (gD G).1 ci := Option.some.inj (k3.symm.trans hcls.1)
  subst hcomp
  obtain ⟨kC, hkC, -⟩ := hcls.2
  refine W.aast hx hb h4 (fun z h => by cases h) (fun h => by cases h) k1 k2 rfl hkC ⟨hi0, by rw [arrV_size]; exact hlt⟩ q1 (fun z h => by rw [q3] at h; cases h) (by rw [q2]; exact hkC) (by rw [q2]; exact va_assign hcls) rfl rfl d fun H1 e1 e2 e3 => ?_
  · refine kk.2.2 H1 _ la a1 a2 (a3.write q (by omega) rfl rfl rfl ?_ ?_ e2 e3 ?_) (fun q' hq' => ?_) ?_ a6 a7
    · intro k' q' i' hne; simp [mSetI, mSetR, mI, hne]
    · intro k' q' i' hne; simp [mSetI, mSetR, mR, hne]
    · refine ⟨fun ci' hk' h2' => ?_, fun hk' => ?_⟩
      · have h0 : mKd M q = ci' + 1 := hk'
        omega
      · have h0 : mKd (mSetR M a q i.toNatClampNeg (some w)) q = a := hk
        refine ⟨_, (by rw [h0]; exact h1), ?_⟩
        rw [e1, h0, arrV_store]
        congr 2
        funext j
        by_cases hj : j = i.toNatClampNeg
        · subst hj
          simp [updV, me_av, mSetI, mSetR, mI, mR, ha, va_rf]
        · simp [updV, me_av, mSetI, mSetR, mI, mR, hj, ha]
    · have := a3.2.2.2.1 q (by omega)
      rw [e3 q' (Nat.ne_of_lt (Nat.lt_of_lt_of_le hq' this))]
      exact a4 q' hq'
    · intro q' hq'
      rcases List.mem_append.mp hq' with h | h
      · exact a5 q' h
      · rw [List.mem_singleton.mp h]
        exact a3.2.2.2.1 q (by omega)
theorem so_aastN (hx : p.tables.exec = Jvm.exec) (hb : c.code = xC X) (hK : va_K (gD G) (gC G) (gT G) s) (hAT : me_AT G el) : me_rule el X v N (me_JW p l e R s m args below meth c Q G nL sz0 sl0 H0 N) 66 := by
  intro pc ls st M q a i d hk ha hi kk
  refine ⟨kk.1, kk.2.1, fun H locs la a1 a2 a3 a4 a5 a6 a7 => ?_⟩
  obtain ⟨t, h1, h2, h3, h4⟩ := me_arr hK a3 (q := q) (by omega)
  rw [hk] at h1 h4
  obtain ⟨ci, r, g1, g2, g3, g4⟩ := hAT.2.2 _ _ (by omega) h1
  refine va_WaastN (C := r.1) hx hb h4 (by rw [← g4]; exact h2 _ _) (fun h => by cases h) (by rw [arrV_size]; exact hi) rfl rfl d fun H1 e1 e2 e3 => ?_
  · refine kk.2.2 H1 _ la a1 a2 (a3.write q (by omega) rfl rfl rfl ?_ ?_ e2 e3 ?_) (fun q' hq' => ?_) ?_ a6 a7
    · intro k' q' i' hne; simp [mSetI, mSetR, mI, hne]
    · intro k' q' i' hne; simp [mSetI, mSetR, mR, hne]
    · refine ⟨fun ci' hk' h2' => ?_, fun hk' => ?_⟩
      · have h0 : mKd M q = ci' + 1 := hk'
        omega
      · have h0 : mKd (mSetR M a q i.toNatClampNeg none) q = a := hk
        refine ⟨_, (by rw [h0]; exact h1), ?_⟩
        rw [e1, h0, arrV_store]
        congr 2
        funext j
        by_cases hj : j = i.toNatClampNeg
        · subst hj
          simp [updV, me_av, mSetI, mSetR, mI, mR, ha, va_rf]
        · simp [updV, me_av, mSetI, mSetR, mI, mR, hj, ha]
    · have := a3.2.2.2.1 q (by omega)
      rw [e3 q' (Nat.ne_of_lt (Nat.lt_of_lt_of_le hq' this))]
      exact a4 q' hq'
    · intro q' hq'
      rcases List.mem_append.mp hq' with h | h
      · exact a5 q' h
      · rw [List.mem_singleton.mp h]
        exact a3.2.2.2.1 q (by omega)
/-- a call, as the caller's walk takes it -/
def me_CR (p : Program) (l : Launch) (e : Env) (R : Room) (s : State) (m : MethodId) (args : Array Value) (below : List Frame) (meth : Method) (c : Code) (Q : State → Prop) (G : me_G) (nL pc : Nat) (as : List me_V) (M : me_M) (r : Option me_V) (M1 : me_M) : Prop :=
  mSz M ≤ mSz M1 ∧ mSl M ≤ mSl M1 ∧ ∀ (H : Heap) (locs : List Loc) (la : Array Slot) (rest : List me_V) (cells slots : Nat), me_H G M H → la.size = nL → rest.length ≤ 8 → cells + (mSz M1 - mSz M) ≤ R.cells → slots + (mSl M1 - mSl M) ≤ R.slots →
    (∀ (H1 : Heap) (L : List Loc), me_H G M1 H1 → (∀ q, q < gB G → H1[q]? = H[q]?) → (∀ q ∈ L, gB G ≤ q.base) → W p l e R s m args below meth c H1 (locs ++ L) (cells + (mSz M1 - mSz M)) (slots + (mSl M1 - mSl M)) Q (F0 m (pc + 3) la ((r.toList ++ rest).map me_v))) →
    W p l e R s m args below meth c H locs cells slots Q (F0 m pc la ((as.reverse ++ rest).map me_v))
theorem so_call (hRc : mSz N - sz0 ≤ R.cells) (hRs : mSl N - sl0 ≤ R.slots) (hC : ∀ pc as M r M1, xCall X pc as M r M1 → me_CR p l e R s m args below meth c Q G nL pc as M r M1) : me_rule el X v N (me_JW p l e R s m args below meth c Q G nL sz0 sl0 H0 N) 67 := by
  intro pc ls st M as r M1 h hl kk
  obtain ⟨c1, c2, c3⟩ := hC _ _ _ _ _ h
  have k1 := kk.1
  have k2 := kk.2.1
  refine ⟨by omega, by omega, fun H locs la a1 a2 a3 a4 a5 a6 a7 => ?_⟩
  refine c3 H locs la st _ _ a3 a6.1 hl (by omega) (by omega) fun H1 L b1 b2 b3 => ?_
  refine W.cs (cells' := mSz M1 - sz0) (slots' := mSl M1 - sl0) (by omega) (by omega) ?_
  refine kk.2.2 H1 _ la (by omega) (by omega) b1 (fun q hq => (b2 q hq).trans (a4 q hq)) ?_ a6 a7
  intro q hq
  rcases List.mem_append.mp hq with h | h
  · exact a5 q h
  · exact b3 q h
theorem me_sum (st : List me_V) : ((st.map me_v).map fun v => v.category).sum = st.length := by
  induction st with
  | nil => rfl
  | cons x t ih =>
    simp only [List.map_cons, List.sum_cons, List.length_cons, me_cat]
    rw [ih]; omega
theorem so_obj (hx : p.tables.exec = Jvm.exec) (hb : c.code = xC X) (hml : c.maxLocals = nL) (hown : s.vm.findClass own = some m.cls) (hO : ¬ xO X = 0 → (Cond.methodLink own (xO X) objectInit).before args s = true ∧ (Cond.instanceMethod objectInit).before args s = true ∧ (Cond.code objectInit ⟨#[0xb1]⟩ 1 none).before args s = true ∧ 1 ≤ R.frames ∧ 20 ≤ R.locals) : me_rule el X v N (me_JW p l e R s m args below meth c Q G nL sz0 sl0 H0 N) 68 := by
  intro pc ls st M q d ho hl kk
  obtain ⟨o1, o2, o3, o4, o5⟩ := hO ho
  refine ⟨kk.1, kk.2.1, fun H locs la a1 a2 a3 a4 a5 a6 a7 => ?_⟩
  refine W.objInit hx hb hown o1 o2 o3 rfl (by rw [hml]; exact a6.1) rfl d o4 ?_ (kk.2.2 H locs la a1 a2 a3 a4 a5 a6 a7)
  show 2 * 0 + ((st.map me_v).map fun v => v.category).sum + 12 ≤ R.locals
  rw [me_sum]; omega
theorem so_sald (hx : p.tables.exec = Jvm.exec) (hb : c.code = xC X) (hS : ∀ b L xs, xS X = some (b, L, xs) → b < gB G ∧ va_X b L xs s H0) : me_rule el X v N (me_JW p l e R s m args below meth c Q G nL sz0 sl0 H0 N) 70 := by
  intro pc ls st M b L xs i d hs hi kk
  refine ⟨kk.1, kk.2.1, fun H locs la a1 a2 a3 a4 a5 a6 a7 => ?_⟩
  obtain ⟨s1, scr, h1, h2, h3, h4, h5⟩ := hS _ _ _ hs
  have hlt : i.toNatClampNeg < L := Nat.not_le.mp fun z => hi (Or.inr z)
  exact W.iald (v := .int (xs i.toNatClampNeg)) hx hb (by rw [a4 b s1]; exact h1) h2 h3 (by rw [h4]; exact hi) (h5 _ hlt) rfl rfl d (kk.2.2 H locs la a1 a2 a3 a4 a5 a6 a7)
theorem so_slen (hx : p.tables.exec = Jvm.exec) (hb : c.code = xC X) (hS : ∀ b L xs, xS X = some (b, L, xs) → b < gB G ∧ va_X b L xs s H0) : me_rule el X v N (me_JW p l e R s m args below meth c Q G nL sz0 sl0 H0 N) 71 := by
  intro pc ls st M b L xs d hs kk
  refine ⟨kk.1, kk.2.1, fun H locs la a1 a2 a3 a4 a5 a6 a7 => ?_⟩
  obtain ⟨s1, scr, h1, h2, h3, h4, h5⟩ := hS _ _ _ hs
  exact W.alen (n := Int32.ofNat L) hx hb (by rw [a4 b s1]; exact h1) h2 (by rw [h4] <;> rfl) rfl rfl d (kk.2.2 H locs la a1 a2 a3 a4 a5 a6 a7)
/-- a method's end -/
def me_Qc (G : me_G) (r : Option me_V) (M1 : me_M) : Array Value → State → Outcome → State → Prop := fun _ st o t => o = .returned (r.map me_v) ∧ me_H G M1 t.heap ∧ ∀ q, q < gB G → t.heap[q]? = st.heap[q]?
def me_Pc (G : me_G) (as : List me_V) (M : me_M) : Array Value → State → Prop := fun a U => a = (as.map me_v).toArray ∧ me_H G M U.heap ∧ va_K (gD G) (gC G) (gT G) U ∧ me_Nw G U
def me_ret (X : me_X) (t : Option FieldType) : Prop := (xR X = 0 ∧ t = none) ∨ (xR X = 1 ∧ t = some .int) ∨ (xR X = 2 ∧ t = some .boolean) ∨ (xR X = 3 ∧ ((∃ a, t = some (.object a)) ∨ ∃ a, t = some (.array a)))
theorem so_ret_i (hx : p.tables.exec = Jvm.exec) (hb : c.code = xC X) (hlocks : meth.locks = false) (hr : me_ret X meth.sig.returnType) : me_rule el X v N (me_JW p l e R s m args below meth c (MQ below (me_Qc G v N) args s (mSz N - sz0) (mSl N - sl0) (fun q => gB G ≤ q)) G nL sz0 sl0 s.heap N) 72 := by
  intro pc ls x d h0 hv
  subst hv
  refine ⟨Nat.le_refl _, Nat.le_refl _, fun H locs la a1 a2 a3 a4 a5 a6 a7 => ?_⟩
  unfold me_ret at hr
  rw [h0] at hr
  simp only [Nat.reduceEqDiff, false_and, true_and, false_or, or_false] at hr
  exact W.iret hx hb hr (fun t ht hW => ⟨rfl, by rw [ht]; exact a3, fun q hq => by rw [ht]; exact a4 q hq⟩) a5 d hlocks
theorem so_ret_z (hx : p.tables.exec = Jvm.exec) (hb : c.code = xC X) (hlocks : meth.locks = false) (hr : me_ret X meth.sig.returnType) : me_rule el X v N (me_JW p l e R s m args below meth c (MQ below (me_Qc G v N) args s (mSz N - sz0) (mSl N - sl0) (fun q => gB G ≤ q)) G nL sz0 sl0 s.heap N) 73 := by
  intro pc ls x d h0 hz hv
  subst hv
  refine ⟨Nat.le_refl _, Nat.le_refl _, fun H locs la a1 a2 a3 a4 a5 a6 a7 => ?_⟩
  unfold me_ret at hr
  rw [h0] at hr
  simp only [Nat.reduceEqDiff, false_and, true_and, false_or, or_false] at hr
  exact W.zret hx hb hr (by rcases hz with rfl | rfl <;> rfl) (fun t ht hW => ⟨rfl, by rw [ht]; exact a3, fun q hq => by rw [ht]; exact a4 q hq⟩) a5 d hlocks
theorem so_ret_a (hx : p.tables.exec = Jvm.exec) (hb : c.code = xC X) (hlocks : meth.locks = false) (hr : me_ret X meth.sig.returnType) : me_rule el X v N (me_JW p l e R s m args below meth c (MQ below (me_Qc G v N) args s (mSz N - sz0) (mSl N - sl0) (fun q => gB G ≤ q)) G nL sz0 sl0 s.heap N) 74 := by
  intro pc ls x d h0 hv
  subst hv
  refine ⟨Nat.le_refl _, Nat.le_refl _, fun H locs la a1 a2 a3 a4 a5 a6 a7 => ?_⟩
  unfold me_ret at hr
  rw [h0] at hr
  simp only [Nat.reduceEqDiff, false_and, true_and, false_or, or_false] at hr
  rcases hr with ⟨a, hr⟩ | ⟨a, hr⟩
  · exact W.aret hx hb hr (Or.inl ⟨a, rfl⟩) (by cases x; exact Or.inl rfl; exact Or.inr ⟨_, rfl⟩) (fun t ht hW => ⟨rfl, by rw [ht]; exact a3, fun q hq => by rw [ht]; exact a4 q hq⟩) a5 d hlocks
  · exact W.aret hx hb hr (Or.inr ⟨a, rfl⟩) (by cases x; exact Or.inl rfl; exact Or.inr ⟨_, rfl⟩) (fun t ht hW => ⟨rfl, by rw [ht]; exact a3, fun q hq => by rw [ht]; exact a4 q hq⟩) a5 d hlocks
theorem so_ret_v (hx : p.tables.exec = Jvm.exec) (hb : c.code = xC X) (hlocks : meth.locks = false) (hr : me_ret X meth.sig.returnType) : me_rule el X v N (me_JW p l e R s m args below meth c (MQ below (me_Qc G v N) args s (mSz N - sz0) (mSl N - sl0) (fun q => gB G ≤ q)) G nL sz0 sl0 s.heap N) 75 := by
  intro pc ls d h0 hv
  subst hv
  refine ⟨Nat.le_refl _, Nat.le_refl _, fun H locs la a1 a2 a3 a4 a5 a6 a7 => ?_⟩
  unfold me_ret at hr
  rw [h0] at hr
  simp only [Nat.reduceEqDiff, false_and, true_and, false_or, or_false] at hr
  exact W.vret hx hb hr (fun t ht hW => ⟨rfl, by rw [ht]; exact a3, fun q hq => by rw [ht]; exact a4 q hq⟩) a5 d hlocks
/-! calls -/
theorem me_blind {as : List me_V} {M : me_M} (hG : me_NW G) : FrameBlind (me_Pc G as M) := fun a U g mk h => ⟨h.1, h.2.1, va_K.moved (u := U) (U := U.calling g mk a) (Vm.Alike.refl U.vm) h.2.2.1, fun w hw => by
    rcases hG w hw with ⟨a1, i1, x1, h1, rfl⟩ | ⟨C, rfl⟩
    · exact va_Nw.same (u := U) (U := U.calling g mk a) rfl rfl (h.2.2.2 _ hw)
    · exact va_AO.moved (u := U) (U := U.calling g mk a) (Vm.Alike.refl U.vm) (h.2.2.2 _ hw)⟩
theorem me_rest {m : MethodId} {pc : Nat} {la : Array Slot} {st : List Value} {rest : List me_V} (h : rest.length ≤ 8) : 2 * (F0 m pc la st).monitorRoom + ((rest.map me_v).map fun v => v.category).sum ≤ 8 := by
  rw [me_sum]
  show 2 * 0 + _ ≤ 8
  omega
section CRS
variable {y : MethodName} {bytes cc : ByteArray} {maxL n index : Nat} {ret : Option FieldType} {ws : List Cond} {rm : Room} {Ts : List Cond} {C : String} {b pc : Nat} {as : List me_V} {M M1 : me_M} {r : Option me_V}
theorem me_goes {as2 : List me_V} {g : JFrame} {H : Heap} {locs : List Loc} {la : Array Slot} {rest : List me_V} {cells slots : Nat} {a : Array Value} (hg : g = F0 m pc la ((as2.reverse ++ rest).map me_v))
    (hr : va_Run p l e R s m args below meth c H locs cells slots (mSz M1 - mSz M) (mSl M1 - mSl M) g (rest.map me_v) (me_Qc G r M1 a) (fun q => gB G ≤ q))
    (kk : ∀ (H1 : Heap) (L : List Loc), me_H G M1 H1 → (∀ q, q < gB G → H1[q]? = H[q]?) → (∀ q ∈ L, gB G ≤ q.base) → W p l e R s m args below meth c H1 (locs ++ L) (cells + (mSz M1 - mSz M)) (slots + (mSl M1 - mSl M)) Q (F0 m (pc + 3) la ((r.toList ++ rest).map me_v))) :
    W p l e R s m args below meth c H locs cells slots Q (F0 m pc la ((as2.reverse ++ rest).map me_v)) := by
  subst hg
  intro T hT X0
  obtain ⟨v0, st₀, t, T', L, h0, X', hL, e1, e2, ⟨q1, q2, q3⟩, st⟩ := hr T hT X0
  have hv : v0 = r.map me_v := by
    injection q1
  subst hv
  obtain ⟨t2, a1, b1⟩ := kk T'.heap L (by rw [e1]; exact q2) (fun q hq => by rw [e1, q3 q hq, h0]) hL T' rfl X'
  refine ⟨t2, st t2 ?_, b1⟩
  have he : (r.map me_v).toList ++ rest.map me_v = (r.toList ++ rest).map me_v := by cases r <;> simp
  rw [he]
  exact a1
theorem me_crV (S : CallFix p m c cc nL s args Ts own) (hK : va_K (gD G) (gC G) (gT G) s) (hG : me_NW G) (hN : me_Nw G s) (hM : Met l y ws rm (me_Pc G (.inr (some b) :: as) M) (me_Qc G r M1) (mSz M1 - mSz M) (mSl M1 - mSl M) (fun q => gB G ≤ q)) (h1 : mSz M ≤ mSz M1) (h2 : mSl M ≤ mSl M1)
    (cw : CallW R s args own C index y bytes maxL ret ws rm (mSz M1 - mSz M) (mSl M1 - mSl M) n) (hn : as.length = n) {ci : Nat} (hk : mKd M b = ci + 1) (hci : ci < 99) {q0 : vw_C} (hc : (gC G)[ci]? = some q0) (hC : q0.1 = C) (hd : decode cc pc = .ok (.invokevirtual index, 3)) : me_CR p l e R s m args below meth c Q G nL pc (.inr (some b) :: as) M r M1 := by
  refine ⟨h1, h2, fun H locs la rest cells slots hH hsz hrl hc1 hc2 kk => ?_⟩
  obtain ⟨r', b1, cell, g1, g2, g3, -⟩ := (hH.2.1 b).1 ci hk hci
  cases hc.symm.trans b1
  refine me_goes rfl (va_runV (As := as.map me_v) (b := b) S hM cw ⟨me_blind hG, ⟨cell, g1, by rw [g3]; rfl, by rw [← hC, g2]; exact (hK.1 ci _ hc).2.1⟩, fun U hU hW => ⟨rfl, by rw [hU]; exact hH, va_K.moved hW.alike hK, hN.warm hG hW⟩⟩ rfl (by rw [List.length_map]; exact hn) hsz ?_ (me_rest hrl) hd ⟨hc1, hc2⟩) kk
  simp [va_rf]
theorem me_crI (S : CallFix p m c cc nL s args Ts own) (hK : va_K (gD G) (gC G) (gT G) s) (hG : me_NW G) (hN : me_Nw G s) (hM : Met l y ws rm (me_Pc G (.inr (some b) :: as) M) (me_Qc G r M1) (mSz M1 - mSz M) (mSl M1 - mSl M) (fun q => gB G ≤ q)) (h1 : mSz M ≤ mSz M1) (h2 : mSl M ≤ mSl M1)
    (cw : CallB R s args own index y bytes maxL none ws rm (mSz M1 - mSz M) (mSl M1 - mSl M) n ∧ y.name = "<init>" ∧ (Cond.instanceMethod y).before args s = true) (hn : as.length = n) (hd : decode cc pc = .ok (.invokespecial index, 3)) : me_CR p l e R s m args below meth c Q G nL pc (.inr (some b) :: as) M r M1 := by
  refine ⟨h1, h2, fun H locs la rest cells slots hH hsz hrl hc1 hc2 kk => ?_⟩
  refine me_goes rfl (va_runI (As := as.map me_v) (b := b) S hM cw ⟨me_blind hG, fun U hU hW => ⟨rfl, by rw [hU]; exact hH, va_K.moved hW.alike hK, hN.warm hG hW⟩⟩ rfl (by rw [List.length_map]; exact hn) hsz ?_ (me_rest hrl) hd ⟨hc1, hc2⟩) kk
  simp [va_rf]
theorem me_crS (S : CallFix p m c cc nL s args Ts own) (hK : va_K (gD G) (gC G) (gT G) s) (hG : me_NW G) (hN : me_Nw G s) (hM : Met l y ws rm (me_Pc G as M) (me_Qc G r M1) (mSz M1 - mSz M) (mSl M1 - mSl M) (fun q => gB G ≤ q)) (h1 : mSz M ≤ mSz M1) (h2 : mSl M ≤ mSl M1)
    (cw : CallB R s args own index y bytes maxL ret ws rm (mSz M1 - mSz M) (mSl M1 - mSl M) n ∧ (Cond.static y).before args s = true) (hn : as.length = n) (hd : decode cc pc = .ok (.invokestatic index, 3)) : me_CR p l e R s m args below meth c Q G nL pc as M r M1 := by
  refine ⟨h1, h2, fun H locs la rest cells slots hH hsz hrl hc1 hc2 kk => ?_⟩
  refine me_goes rfl (va_runS (As := as.map me_v) S hM cw ⟨me_blind hG, fun U hU hW => ⟨rfl, by rw [hU]; exact hH, va_K.moved hW.alike hK, hN.warm hG hW⟩⟩ rfl (by rw [List.length_map]; exact hn) hsz ?_ (me_rest hrl) hd ⟨hc1, hc2⟩) kk
  simp
theorem me_crIN {host : String} (S : CallFix p m c cc nL s args Ts own) (hK : va_K (gD G) (gC G) (gT G) s) (hG : me_NW G) (hN : me_Nw G s) (hM : Met l y ws rm (me_Pc G (.inr (some b) :: as) M) (me_Qc G r M1) (mSz M1 - mSz M) (mSl M1 - mSl M) (fun q => gB G ≤ q)) (h1 : mSz M ≤ mSz M1) (h2 : mSl M ≤ mSl M1)
    (cw : va_CN R s args own index y host bytes maxL none ws rm (mSz M1 - mSz M) (mSl M1 - mSl M) n ∧ y.name = "<init>" ∧ (Cond.instanceMethod y).before args s = true) (hn : as.length = n) (hd : decode cc pc = .ok (.invokespecial index, 3)) : me_CR p l e R s m args below meth c Q G nL pc (.inr (some b) :: as) M r M1 := by
  refine ⟨h1, h2, fun H locs la rest cells slots hH hsz hrl hc1 hc2 kk => ?_⟩
  refine me_goes rfl (va_runIN (As := as.map me_v) (b := b) S hM cw ⟨me_blind hG, fun U hU hW => ⟨rfl, by rw [hU]; exact hH, va_K.moved hW.alike hK, hN.warm hG hW⟩⟩ rfl (by rw [List.length_map]; exact hn) hsz ?_ (me_rest hrl) hd ⟨hc1, hc2⟩) kk
  simp [va_rf]
end CRS
end SND
/-- a run makes cells, it never takes one away -/
theorem RUN.le {el : Nat → Nat} {X : me_X} {pc : Nat} {ls : List (Option me_V)} {st : List me_V} {M : me_M} {v : Option me_V} {N : me_M} (hC : ∀ pc as M r M1, xCall X pc as M r M1 → mSz M ≤ mSz M1 ∧ mSl M ≤ mSl M1) (h : RUN el X pc ls st M v N) : mSz M ≤ mSz N ∧ mSl M ≤ mSl N := by
  refine h (fun _ _ _ M => mSz M ≤ mSz N ∧ mSl M ≤ mSl N) fun i => ?_
  match i with
  | 0 => exact fun _ _ _ _ _ _ _ _ kk => kk
  | 1 => exact fun _ _ _ _ _ _ _ _ kk => kk
  | 2 => exact fun _ _ _ _ _ _ _ _ kk => kk
  | 3 => exact fun _ _ _ _ _ _ _ _ kk => kk
  | 4 => exact fun _ _ _ _ _ kk => kk
  | 5 => exact fun _ _ _ _ _ _ _ _ kk => kk
  | 6 => exact fun _ _ _ _ _ _ _ _ kk => kk
  | 7 => exact fun _ _ _ _ _ _ _ _ kk => kk
  | 8 => exact fun _ _ _ _ _ _ _ _ kk => kk
  | 9 => exact fun _ _ _ _ _ _ _ _ _ _ kk => kk
  | 10 => exact fun _ _ _ _ _ _ _ _ _ _ kk => kk
  | 11 => exact fun _ _ _ _ _ _ _ _ _ _ kk => kk
  | 12 => exact fun _ _ _ _ _ _ _ _ _ _ kk => kk
  | 13 => exact fun _ _ _ _ _ _ _ _ _ _ _ kk => kk
  | 14 => exact fun _ _ _ _ _ _ _ kk => kk
  | 15 => exact fun _ _ _ _ _ _ _ kk => kk
  | 16 => exact fun _ _ _ _ _ _ _ kk => kk
  | 17 => exact fun _ _ _ _ _ _ _ kk => kk
  | 18 => exact fun _ _ _ _ _ _ _ kk => kk
  | 19 => exact fun _ _ _ _ _ _ _ kk => kk
  | 20 => exact fun _ _ _ _ _ _ _ kk => kk
  | 21 => exact fun _ _ _ _ _ _ _ kk => kk
  | 22 => exact fun _ _ _ _ _ _ _ _ kk => kk
  | 23 => exact fun _ _ _ _ _ _ _ _ kk => kk
  | 24 => exact fun _ _ _ _ _ _ kk => kk
  | 25 => exact fun _ _ _ _ _ _ kk => kk
  | 26 => exact fun _ _ _ _ _ _ kk => kk
  | 27 => exact fun _ _ _ _ _ _ _ kk => kk
  | 28 => exact fun _ _ _ _ _ _ _ _ kk => kk
  | 29 => exact fun _ _ _ _ _ _ _ kk => kk
  | 30 =>
    intro pc ls st M x off tgt _ _ kt kf
    by_cases hg : x = 0
    · exact kt hg
    · exact kf hg
  | 31 =>
    intro pc ls st M x off tgt _ _ kt kf
    by_cases hg : x = 0
    · exact kf hg
    · exact kt hg
  | 32 =>
    intro pc ls st M x off tgt _ _ kt kf
    by_cases hg : x < 0
    · exact kt hg
    · exact kf hg
  | 33 =>
    intro pc ls st M x off tgt _ _ kt kf
    by_cases hg : 0 ≤ x
    · exact kt hg
    · exact kf hg
  | 34 =>
    intro pc ls st M x off tgt _ _ kt kf
    by_cases hg : 0 < x
    · exact kt hg
    · exact kf hg
  | 35 =>
    intro pc ls st M x off tgt _ _ kt kf
    by_cases hg : x ≤ 0
    · exact kt hg
    · exact kf hg
  | 36 =>
    intro pc ls st M x y off tgt _ _ kt kf
    by_cases hg : x = y
    · exact kt hg
    · exact kf hg
  | 37 =>
    intro pc ls st M x y off tgt _ _ kt kf
    by_cases hg : x = y
    · exact kf hg
    · exact kt hg
  | 38 =>
    intro pc ls st M x y off tgt _ _ kt kf
    by_cases hg : x < y
    · exact kt hg
    · exact kf hg
  | 39 =>
    intro pc ls st M x y off tgt _ _ kt kf
    by_cases hg : y ≤ x
    · exact kt hg
    · exact kf hg
  | 40 =>
    intro pc ls st M x y off tgt _ _ kt kf
    by_cases hg : y < x
    · exact kt hg
    · exact kf hg
  | 41 =>
    intro pc ls st M x y off tgt _ _ kt kf
    by_cases hg : x ≤ y
    · exact kt hg
    · exact kf hg
  | 42 =>
    intro pc ls st M x y off tgt _ _ kt kf
    by_cases hg : x = y
    · exact kt hg
    · exact kf hg
  | 43 =>
    intro pc ls st M x y off tgt _ _ kt kf
    by_cases hg : x = y
    · exact kf hg
    · exact kt hg
  | 44 =>
    intro pc ls st M x off tgt _ _ kt kf
    by_cases hg : x = none
    · exact kt hg
    · exact kf hg
  | 45 =>
    intro pc ls st M x off tgt _ _ kt kf
    by_cases hg : x = none
    · exact kf hg
    · exact kt hg
  | 46 => exact fun _ _ _ _ _ _ _ _ kk => kk
  | 47 => exact fun _ _ _ _ _ _ _ _ _ _ _ _ _ _ _ _ _ kk => kk
  | 48 => exact fun _ _ _ _ _ _ _ _ _ _ _ _ _ _ kk => kk
  | 49 => exact fun _ _ _ _ _ _ _ _ _ _ _ _ _ _ kk => kk
  | 50 => exact fun _ _ _ _ _ _ _ _ _ _ _ _ _ _ kk => kk
  | 51 => exact fun _ _ _ _ _ _ _ _ _ _ _ _ kk => kk
  | 52 => exact fun _ _ _ _ _ _ _ _ _ _ _ _ _ kk => kk
  | 53 => exact fun _ _ _ _ _ _ _ _ _ _ _ _ _ _ kk => kk
  | 54 => exact fun _ _ _ _ _ _ _ _ _ _ _ _ _ kk => kk
  | 55 => exact fun _ _ _ _ _ _ _ _ _ kk => ⟨Nat.le_of_succ_le kk.1, Nat.le_trans (Nat.le_add_right _ _) kk.2⟩
  | 56 => exact fun _ _ _ _ _ _ _ _ _ kk => ⟨Nat.le_of_succ_le kk.1, Nat.le_trans (Nat.le_add_right _ _) kk.2⟩
  | 57 => exact fun _ _ _ _ _ _ _ _ _ kk => ⟨Nat.le_of_succ_le kk.1, Nat.le_trans (Nat.le_add_right _ _) kk.2⟩
  | 58 => exact fun _ _ _ _ _ _ _ _ _ _ _ _ kk => ⟨Nat.le_of_succ_le kk.1, Nat.le_trans (Nat.le_add_right _ _) kk.2⟩
  | 59 => exact fun _ _ _ _ _ _ _ kk => kk
  | 60 => exact fun _ _ _ _ _ _ _ _ _ kk => kk
  | 61 => exact fun _ _ _ _ _ _ _ _ _ _ kk => kk
  | 62 => exact fun _ _ _ _ _ _ _ _ _ kk => kk
  | 63 => exact fun _ _ _ _ _ _ _ _ _ _ _ kk => kk
  | 64 => exact fun _ _ _ _ _ _ _ _ _ _ _ kk => kk
  | 65 => exact fun _ _ _ _ _ _ _ _ _ _ _ _ _ kk => kk
  | 66 => exact fun _ _ _ _ _ _ _ _ _ _ _ kk => kk
  | 67 => exact fun _ _ _ _ _ _ _ h _ kk => ⟨Nat.le_trans (hC _ _ _ _ _ h).1 kk.1, Nat.le_trans (hC _ _ _ _ _ h).2 kk.2⟩
  | 68 => exact fun _ _ _ _ _ _ _ _ kk => kk
  | 69 => exact fun _ _ _ _ _ _ _ kk => kk
  | 70 => exact fun _ _ _ _ _ _ _ _ _ _ _ kk => kk
  | 71 => exact fun _ _ _ _ _ _ _ _ _ kk => kk
  | 72 => exact fun _ _ _ _ _ _ => ⟨Nat.le_refl _, Nat.le_refl _⟩
  | 73 => exact fun _ _ _ _ _ _ _ => ⟨Nat.le_refl _, Nat.le_refl _⟩
  | 74 => exact fun _ _ _ _ _ _ => ⟨Nat.le_refl _, Nat.le_refl _⟩
  | 75 => exact fun _ _ _ _ _ => ⟨Nat.le_refl _, Nat.le_refl _⟩
  | (k + 76) => exact trivial
/-- what a method's tables must give, at the state of its start -/
def me_tabs (G : me_G) (X : me_X) (own : String) (R : Room) (args : Array Value) (s : State) (nm : String) : Prop :=
  me_TF G own args s False (xF X) ∧ me_TF G own args s True (xG X) ∧ (∀ idx ci k key ty r, xG X idx = some (ci, k, key, ty) → (gC G)[ci]? = some r → (r.2.1 k).2.2.2 = true → nm = "<init>") ∧ me_TN G own args s (xN X) ∧ me_TA G own args s (xA X) ∧
  (xA X 70000 = some 100 → (Cond.arrayClass .int).before args s = true) ∧ (xA X 70001 = some 101 → (Cond.arrayClass .boolean).before args s = true) ∧ (∀ n w, xK X n = some w → (Jvm.Cond.constant own n w).before args s = true) ∧
  (¬ xO X = 0 → (Cond.methodLink own (xO X) objectInit).before args s = true ∧ (Cond.instanceMethod objectInit).before args s = true ∧ (Cond.code objectInit ⟨#[0xb1]⟩ 1 none).before args s = true ∧ 1 ≤ R.frames ∧ 20 ≤ R.locals)
theorem me_args (as : List me_V) (n : Nat) {j : Nat} {x : me_V} (h : as[j]? = some x) : (n + j, me_v x) ∈ lv_args n (as.map me_v) := by
  induction as generalizing n j with
  | nil => cases h
  | cons a t ih =>
    have hc := me_cat a
    simp only [List.map_cons, lv_args, hc]
    cases j with
    | zero =>
      cases h
      simp
    | succ j =>
      rw [List.getElem?_cons_succ] at h
      have := ih (n + 1) h
      simp only [Nat.reduceEqDiff, if_false]
      exact List.mem_cons_of_mem _ (by rw [show n + (j + 1) = n + 1 + j by omega]; exact this)
theorem me_sl (as : List me_V) : (lg_sl (as.map me_v)).length = as.length := by
  induction as with
  | nil => rfl
  | cons a t ih =>
    have hc := me_cat a
    simp [lg_sl, hc] at ih ⊢
    exact ih
set_option maxHeartbeats 4000000 in
set_option maxRecDepth 100000 in
/-- a run of the rules is a contract of the machine -/
theorem me_met {l : Launch} {y : MethodName} {ws ws' : List Cond} {cc : ByteArray} {maxL fr lo : Nat} {ret : Option FieldType} {G : me_G} {X : me_X} {el : Nat → Nat} {as : List me_V} {M N : me_M} {v : Option me_V} (hy : plainName y.cls = true) (hw : ws = Cond.code y cc maxL ret :: ws') (hcc : xC X = cc) (hret : me_ret X ret) (hlen : as.length ≤ maxL) (hS : xS X = none) (hCL : me_CL G) (hAT : me_AT G el)
    (hle : mSz M ≤ mSz N ∧ mSl M ≤ mSl N)
    (hT : ∀ (args : Array Value) (s : State), (∀ w ∈ ws, w.before args s = true) → me_Nw G s → me_tabs G X y.cls { frames := fr, cells := mSz N - mSz M, slots := mSl N - mSl M, locals := lo } args s y.name)
    (hC : ∀ (p : Program) (e : Env) (s : State) (m : MethodId) (args : Array Value) (below : List Frame) (meth : Method) (c : Code) (Q : State → Prop), CallFix p m c cc maxL s args ws y.cls → va_K (gD G) (gC G) (gT G) s → me_Nw G s → ∀ pc as2 M2 r M1, xCall X pc as2 M2 r M1 → me_CR p l e { frames := fr, cells := mSz N - mSz M, slots := mSl N - mSl M, locals := lo } s m args below meth c Q G maxL pc as2 M2 r M1)
    (hrun : RUN el X 0 (as.map some ++ List.replicate (maxL - as.length) none) [] M v N) : Met l y ws { frames := fr, cells := mSz N - mSz M, slots := mSl N - mSl M, locals := lo } (me_Pc G as M) (me_Qc G v N) (mSz N - mSz M) (mSl N - mSl M) (fun q => gB G ≤ q) := by
  refine Met.ofW (cc := cc) (maxL := maxL) (ret := ret) hy hw ?_
  intro p e s m args below meth c s₁ B hml hv
  obtain ⟨rfl, hH, hK, hNw⟩ := hv
  have hx := B.exec
  have hb : c.code = xC X := by rw [hcc]; exact B.bytes
  have hr : me_ret X meth.sig.returnType := by rw [B.returns]; exact hret
  have hts := atoms_spec (ws := ws) B.pre
  have hown : s.vm.findClass y.cls = some m.cls := findClass_of_methodNamed B.named
  have hlocks := B.notSynchronized
  have hnm : meth.name = y.name := (name_of_methodNamed B.named B.method).1
  obtain ⟨T1, T2, T3, T4, T5, T6, T7, T8, T9⟩ := hT _ _ hts hNw
  rw [← hnm] at T3
  have hC2 := fun Q => hC p e s m _ below meth c Q ⟨hx, B.bytes, hml, hown, hts⟩ hK hNw
  have hS2 : ∀ b L xs, xS X = some (b, L, xs) → b < gB G ∧ va_X b L xs s s.heap := fun b L xs h => by rw [hS] at h; cases h
  have hl := lv_entry (as.map me_v) (n := maxL) (by rw [me_sl]; exact hlen)
  rw [lg_entry_eq]
  generalize (lg_sl (as.map me_v) ++ List.replicate (maxL - (lg_sl (as.map me_v)).length) Slot.unset).toArray = la at hl ⊢
  have hl2 : lv_has la maxL (me_lv (as.map some ++ List.replicate (maxL - as.length) none)) := by
    refine ⟨hl.1, hl.2.1, fun q hq => ?_⟩
    obtain ⟨j, w⟩ := q
    obtain ⟨x, hx1, rfl⟩ := me_lv_mem.mp hq
    refine hl.2.2 _ ?_
    by_cases hj : j < as.length
    · rw [List.getElem?_append_left (by rw [List.length_map]; exact hj), List.getElem?_map] at hx1
      cases hz : as[j]? with
      | none => rw [hz] at hx1; cases hx1
      | some z =>
        rw [hz] at hx1
        cases hx1
        have := me_args as 0 hz
        rwa [Nat.zero_add] at this
    · rw [List.getElem?_append_right (by rw [List.length_map]; omega), List.getElem?_replicate] at hx1
      split at hx1 <;> cases hx1
  have key := hrun (me_JW p l e { frames := fr, cells := mSz N - mSz M, slots := mSl N - mSl M, locals := lo } s m (as.map me_v).toArray below meth c (MQ below (me_Qc G v N) (as.map me_v).toArray s (mSz N - mSz M) (mSl N - mSl M) (fun q => gB G ≤ q)) G maxL (mSz M) (mSl M) s.heap N) (fun i => ?_)
  · have h := key.2.2 s.heap [] la (Nat.le_refl _) (Nat.le_refl _) hH (fun _ _ => rfl) (fun _ h => by cases h) hl2 (by simp; omega)
    rw [Nat.sub_self, Nat.sub_self] at h
    exact h
  · have hRc : mSz N - mSz M ≤ ({ frames := fr, cells := mSz N - mSz M, slots := mSl N - mSl M, locals := lo } : Room).cells := Nat.le_refl _
    have hRs : mSl N - mSl M ≤ ({ frames := fr, cells := mSz N - mSz M, slots := mSl N - mSl M, locals := lo } : Room).slots := Nat.le_refl _
    match i with
    | 0 => exact so_iconst hx hb 
    | 1 => exact so_bipush hx hb 
    | 2 => exact so_sipush hx hb 
    | 3 => exact so_ldc hx hb hown T8
    | 4 => exact so_null hx hb 
    | 5 => exact so_iload_n hx hb 
    | 6 => exact so_iload hx hb 
    | 7 => exact so_aload_n hx hb 
    | 8 => exact so_aload hx hb 
    | 9 => exact so_istore_n hx hb 
    | 10 => exact so_istore hx hb 
    | 11 => exact so_astore_n hx hb 
    | 12 => exact so_astore hx hb 
    | 13 => exact so_iinc hx hb 
    | 14 => exact so_iadd hx hb 
    | 15 => exact so_isub hx hb 
    | 16 => exact so_imul hx hb 
    | 17 => exact so_iand hx hb 
    | 18 => exact so_ior hx hb 
    | 19 => exact so_ixor hx hb 
    | 20 => exact so_ishl hx hb 
    | 21 => exact so_ishr hx hb 
    | 22 => exact so_idiv hx hb 
    | 23 => exact so_irem hx hb 
    | 24 => exact so_ineg hx hb 
    | 25 => exact so_dup hx hb 
    | 26 => exact so_pop hx hb 
    | 27 => exact so_dup_x1 hx hb 
    | 28 => exact so_dup_x2 hx hb 
    | 29 => exact so_dup2 hx hb 
    | 30 => exact so_if_eq hx hb 
    | 31 => exact so_if_ne hx hb 
    | 32 => exact so_if_lt hx hb 
    | 33 => exact so_if_ge hx hb 
    | 34 => exact so_if_gt hx hb 
    | 35 => exact so_if_le hx hb 
    | 36 => exact so_icmp_eq hx hb 
    | 37 => exact so_icmp_ne hx hb 
    | 38 => exact so_icmp_lt hx hb 
    | 39 => exact so_icmp_ge hx hb 
    | 40 => exact so_icmp_gt hx hb 
    | 41 => exact so_icmp_le hx hb 
    | 42 => exact so_acmp_eq hx hb 
    | 43 => exact so_acmp_ne hx hb 
    | 44 => exact so_ifnull hx hb 
    | 45 => exact so_ifnonnull hx hb 
    | 46 => exact so_goto hx hb 
    | 47 => exact so_tabIn hx hb 
    | 48 => exact so_tabOut hx hb 
    | 49 => exact so_lookup hx hb 
    | 50 => exact so_getI hx hb hown hK T1
    | 51 => exact so_getR hx hb hown hK T1
    | 52 => exact so_putI hx hb hown hK hCL T2 T3
    | 53 => exact so_putZ hx hb hown hK hCL T2 T3
    | 54 => exact so_putR hx hb hown hK hCL T2 T3
    | 55 => exact so_new hx hb hown hK hCL hRc hRs T4
    | 56 => exact so_newI hx hb hK hAT hRc hRs T6
    | 57 => exact so_newZ hx hb hK hAT hRc hRs T7
    | 58 => exact so_newR hx hb hown hK hRc hRs T5
    | 59 => exact so_alen hx hb hK
    | 60 => exact so_iald hx hb hK hAT
    | 61 => exact so_iast hx hb hK hAT
    | 62 => exact so_zald hx hb hK hAT
    | 63 => exact so_zast hx hb hK hAT
    | 64 => exact so_aald hx hb hK hAT
    | 65 => exact so_aast hx hb hK hAT
    | 66 => exact so_aastN hx hb hK hAT
    | 67 => exact so_call hRc hRs (hC2 _)
    | 68 => exact so_obj hx hb hml hown T9
    | 69 => exact so_drop hx hb 
    | 70 => exact so_sald hx hb hS2
    | 71 => exact so_slen hx hb hS2
    | 72 => exact so_ret_i hx hb hlocks hr
    | 73 => exact so_ret_z hx hb hlocks hr
    | 74 => exact so_ret_a hx hb hlocks hr
    | 75 => exact so_ret_v hx hb hlocks hr
    | (k + 76) => exact trivial
