section CEL
variable {p : Program} {l : Launch} {e : Env} {R : Room} {s : State} {m : MethodId} {args : Array Value} {below : List Frame} {meth : Method} {c : Code} {Q : State → Prop}
/-- a call, where the caller knows what lay there before -/
def me_CR2 (p : Program) (l : Launch) (e : Env) (R : Room) (s : State) (m : MethodId) (args : Array Value) (below : List Frame) (meth : Method) (c : Code) (Q : State → Prop) (G : me_G) (nL : Nat) (H0 : Heap) (pc : Nat) (as : List me_V) (M : me_M) (r : Option me_V) (M1 : me_M) : Prop :=
  mSz M ≤ mSz M1 ∧ mSl M ≤ mSl M1 ∧ ∀ (H : Heap) (locs : List Loc) (la : Array Slot) (rest : List me_V) (cells slots : Nat), me_H G M H → (∀ q, q < gB G → H[q]? = H0[q]?) → la.size = nL → rest.length ≤ 8 → cells + (mSz M1 - mSz M) ≤ R.cells → slots + (mSl M1 - mSl M) ≤ R.slots →
    (∀ (H1 : Heap) (L : List Loc), me_H G M1 H1 → (∀ q, q < gB G → H1[q]? = H[q]?) → (∀ q ∈ L, gB G ≤ q.base) → W p l e R s m args below meth c H1 (locs ++ L) (cells + (mSz M1 - mSz M)) (slots + (mSl M1 - mSl M)) Q (F0 m (pc + 3) la ((r.toList ++ rest).map me_v))) →
    W p l e R s m args below meth c H locs cells slots Q (F0 m pc la ((as.reverse ++ rest).map me_v))
theorem me_CR.up {G : me_G} {nL pc : Nat} {H0 : Heap} {as : List me_V} {M M1 : me_M} {r : Option me_V} (h : me_CR p l e R s m args below meth c Q G nL pc as M r M1) : me_CR2 p l e R s m args below meth c Q G nL H0 pc as M r M1 :=
  ⟨h.1, h.2.1, fun H locs la rest cells slots a _ b c d e f => h.2.2 H locs la rest cells slots a b c d e f⟩
theorem so_call2 {G : me_G} {nL sz0 sl0 : Nat} {H0 : Heap} {X : me_X} {v : Option me_V} {N : me_M} {el : Nat → Nat} (hRc : mSz N - sz0 ≤ R.cells) (hRs : mSl N - sl0 ≤ R.slots) (hC : ∀ pc as M r M1, xCall X pc as M r M1 → me_CR2 p l e R s m args below meth c Q G nL H0 pc as M r M1) : me_rule el X v N (me_JW p l e R s m args below meth c Q G nL sz0 sl0 H0 N) 67 := by
  intro pc ls st M as r M1 h hl kk
  obtain ⟨c1, c2, c3⟩ := hC _ _ _ _ _ h
  have k1 := kk.1
  have k2 := kk.2.1
  refine ⟨by omega, by omega, fun H locs la a1 a2 a3 a4 a5 a6 a7 => ?_⟩
  refine c3 H locs la st _ _ a3 a4 a6.1 hl (by omega) (by omega) fun H1 L b1 b2 b3 => ?_
  refine W.cs (cells' := mSz M1 - sz0) (slots' := mSl M1 - sl0) (by omega) (by omega) ?_
  refine kk.2.2 H1 _ la (by omega) (by omega) b1 (fun q hq => (b2 q hq).trans (a4 q hq)) ?_ a6 a7
  intro q hq
  rcases List.mem_append.mp hq with h | h
  · exact a5 q h
  · exact b3 q h
theorem gS {big : List Cond} (hb : ∀ w ∈ LW, w ∈ big) {own : String} {idx : Nat} {y : MethodName} {k : Cond} (hk : k ∈ LW) (h1 : Cond.methodLink own idx y ∈ LW) (h2 : Cond.static y ∈ LW) (h3 : Cond.initialized own ∈ LW) : GoodIn big (wsS own idx y (k :: LW)) := by
  intro w hw
  unfold wsS at hw
  rcases List.mem_append.mp hw with h | h
  · simp only [List.mem_cons, List.not_mem_nil, or_false] at h
    rcases h with h | h | h
    · rw [h]; first | exact ⟨hb _ h1, (LW_in h1).2⟩ | exact ⟨hb _ h2, (LW_in h2).2⟩ | exact ⟨hb _ h3, (LW_in h3).2⟩
    · rw [h]; first | exact ⟨hb _ h1, (LW_in h1).2⟩ | exact ⟨hb _ h2, (LW_in h2).2⟩ | exact ⟨hb _ h3, (LW_in h3).2⟩
    · rw [h]; first | exact ⟨hb _ h1, (LW_in h1).2⟩ | exact ⟨hb _ h2, (LW_in h2).2⟩ | exact ⟨hb _ h3, (LW_in h3).2⟩
  · exact gI hb hk w h
theorem le_Law_cell {bS L : Nat} {xs : Nat → Int32} {ls : List (Option me_V)} {M N : me_M} {v : Option me_V} (h : RUN eL (X_Law_cell bS L xs) 0 ls [] M v N) : mSz M ≤ mSz N ∧ mSl M ≤ mSl N := by
  refine RUN.le (fun pc as M r M1 h => ?_) h
  exact False.elim h
theorem snd_Law_cell {B : Nat} {Dd : va_G} {cA : Nat → ClassId} {bS L : Nat} {xs : Nat → Int32} (hB : bS < B) {as : List me_V} {M N : me_M} {v : Option me_V} (hlen : as.length = 2) (hrun : RUN eL (X_Law_cell bS L xs) 0 (as.map some ++ List.replicate (2 - 2) none) [] M v N) : Met l y_Law_cell (Cond.code y_Law_cell b_Law_cell 2 (some .int) :: LW) { frames := 0, cells := mSz N - mSz M, slots := mSl N - mSl M, locals := 0 } (fun a U => me_Pc (mG B Dd cA) as M a U ∧ va_X bS L xs U U.heap) (me_Qc (mG B Dd cA) v N) (mSz N - mSz M) (mSl N - mSl M) (fun q => B ≤ q) := by
  refine me_met2 (X := X_Law_cell bS L xs) (el := eL) (G := mG B Dd cA) (cc := b_Law_cell) (maxL := 2) (ws' := LW) (ret := some .int) (PS := fun U => va_X bS L xs U U.heap) (by decide +kernel) rfl rfl (Or.inr (Or.inl ⟨rfl, rfl⟩)) (by omega) (fun U h b' L' xs' e => ?_) mG_CL mG_AT (le_Law_cell hrun) (fun args s hts hNw => ?_) (fun p e s m args below meth c Q S hK hNw pc as2 M2 r M1 h => ?_) (by rw [hlen]; exact hrun)
  · cases e
    exact ⟨hB, h⟩
  · exact ⟨tf_nil, tf_nil, fun _ _ _ _ _ _ (h : none = some _) => (by cases h), tn_nil, ta_nil, fun (h : none = some _) => (by cases h), fun (h : none = some _) => (by cases h), fun _ _ (h : none = some _) => (by cases h), fun h => absurd rfl h⟩
  · exact False.elim h
theorem cell_CR {B : Nat} {Dd : va_G} {cA : Nat → ClassId} {bS L : Nat} {xs : Nat → Int32} {cc : ByteArray} {nL : Nat} {Ts : List Cond} {own : String} {index pc : Nat} {as : List me_V} {M M1 : me_M} {r : Option me_V} (S : CallFix p m c cc nL s args Ts own) (hK : va_K (gD (mG B Dd cA)) (gC (mG B Dd cA)) (gT (mG B Dd cA)) s) (hNw : me_Nw (mG B Dd cA) s) (hX : va_X bS L xs s s.heap) (hB : bS < B)
    (cw : CallB R s args own index y_Law_cell b_Law_cell 2 (some .int) (Cond.code y_Law_cell b_Law_cell 2 (some .int) :: LW) { frames := 0, cells := mSz M1 - mSz M, slots := mSl M1 - mSl M, locals := 0 } (mSz M1 - mSz M) (mSl M1 - mSl M) 2 ∧ (Cond.static y_Law_cell).before args s = true)
    (h : me_cS eL (X_Law_cell bS L xs) 2 2 as M r M1) (hd : decode cc pc = .ok (.invokestatic index, 3)) : me_CR2 p l e R s m args below meth c Q (mG B Dd cA) nL s.heap pc as M r M1 := by
  obtain ⟨hn, hr⟩ := h
  have hle := le_Law_cell hr
  refine ⟨hle.1, hle.2, fun H locs la rest cells slots hH h0 hsz hrl hc1 hc2 kk => ?_⟩
  refine me_goes rfl (va_runS (As := as.map me_v) S (snd_Law_cell hB hn hr) cw ⟨fun a U g mk h => ⟨me_blind mG_NW a U g mk h.1, va_X.moved (u := U) (U := U.calling g mk a) (Vm.Alike.refl U.vm) h.2⟩, fun U hU hW => ⟨⟨rfl, by rw [hU]; exact hH, va_K.moved hW.alike hK, hNw.warm mG_NW hW⟩, ?_⟩⟩ rfl (by rw [List.length_map]; exact hn) hsz ?_ (me_rest hrl) hd ⟨hc1, hc2⟩) kk
  · rw [hU]
    exact va_X.moved hW.alike (hX.kept (h0 bS hB))
  · simp
end CEL
