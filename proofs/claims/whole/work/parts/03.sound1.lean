section SND
variable {p : Program} {l : Launch} {e : Env} {R : Room} {s : State} {m : MethodId} {args : Array Value} {below : List Frame} {meth : Method} {c : Code} {Q : State → Prop}
variable {G : me_G} {nL sz0 sl0 : Nat} {H0 : Heap} {X : me_X} {v : Option me_V} {N : me_M} {el : Nat → Nat} {own : String}

theorem so_newI (hx : p.tables.exec = Jvm.exec) (hb : c.code = xC X) (hK : va_K (gD G) (gC G) (gT G) s) (hAT : me_AT G el) (hRc : mSz N - sz0 ≤ R.cells) (hRs : mSl N - sl0 ≤ R.slots) (hT : xA X 70000 = some 100 → (Cond.arrayClass .int).before args s = true) : me_rule el X v N (me_JW p l e R s m args below meth c Q G nL sz0 sl0 H0 N) 56 := by
  intro pc ls st M n d hf hn hb2 kk
  have k1 : mSz M + 1 ≤ mSz N := kk.1
  have k2 : mSl M + n.toNatClampNeg ≤ mSl N := kk.2.1
  refine ⟨by omega, by omega, fun H locs la a1 a2 a3 a4 a5 a6 a7 => ?_⟩
  obtain ⟨c0, hc0⟩ := hAT.1
  refine va_newaK (atype := .int) hx hb (hT hf) rfl d rfl hn rfl (by have hcb : componentBytes (newarray.typeOf .int) = 4 := rfl; rw [hcb]; omega) (by omega) (by omega) a3.1 fun H1 cA e1 z1 o1 hAr hNm => ?_
  have hcc : cA = c0 := by
    have h := (hK.2 0 _ hc0).2
    unfold va_RA at h
    dsimp only at h
    simp only [newarray.typeOf] at hNm
    rw [hNm] at h
    exact Option.some.inj h
  subst hcc
  refine W.cs (cells' := mSz (mNew M 100 n.toNatClampNeg n.toNatClampNeg) - sz0) (slots' := mSl (mNew M 100 n.toNatClampNeg n.toNatClampNeg) - sl0) (by rw [mSz_New]; omega) (by rw [mSl_New]; omega) ?_
  refine kk.2.2 H1 locs la (by rw [mSz_New]; omega) (by rw [mSl_New]; omega) (a3.made 100 n.toNatClampNeg n.toNatClampNeg (by rw [z1, a3.1]) (fun q' h => o1 q' (by rw [← a3.1]; exact h)) ⟨fun ci' h' h2' => ?_, fun h' => ?_⟩) (fun q' hq' => ?_) a5 a6 a7
  · rw [mKd_New, if_pos rfl] at h'
    omega
  · refine ⟨_, (show (gT G)[mKd (mNew M 100 n.toNatClampNeg n.toNatClampNeg) (mSz M) - 100]? = some (cA, .int) from ?_), ?_⟩
    · rw [mKd_New, if_pos rfl]; exact hc0
    · rw [e1, mLn_New, if_pos rfl, mKd_New, if_pos rfl]
      obtain ⟨-, hfr⟩ := a3.2.2.1 (mSz M) (Nat.le_refl _)
      congr 2
      funext j
      unfold me_av
      rw [mI_New, (hfr _ j).1]
      rfl
  · have := a3.2.2.2.2
    rw [o1 q' (by omega)]
    exact a4 q' hq'
theorem so_newZ (hx : p.tables.exec = Jvm.exec) (hb : c.code = xC X) (hK : va_K (gD G) (gC G) (gT G) s) (hAT : me_AT G el) (hRc : mSz N - sz0 ≤ R.cells) (hRs : mSl N - sl0 ≤ R.slots) (hT : xA X 70001 = some 101 → (Cond.arrayClass .boolean).before args s = true) : me_rule el X v N (me_JW p l e R s m args below meth c Q G nL sz0 sl0 H0 N) 57 := by
  intro pc ls st M n d hf hn hb2 kk
  have k1 : mSz M + 1 ≤ mSz N := kk.1
  have k2 : mSl M + n.toNatClampNeg ≤ mSl N := kk.2.1
  refine ⟨by omega, by omega, fun H locs la a1 a2 a3 a4 a5 a6 a7 => ?_⟩
  obtain ⟨c0, hc0⟩ := hAT.2.1
  refine va_newaK (atype := .boolean) hx hb (hT hf) rfl d rfl hn rfl (by have hcb : componentBytes (newarray.typeOf .boolean) = 1 := rfl; rw [hcb]; omega) (by omega) (by omega) a3.1 fun H1 cA e1 z1 o1 hAr hNm => ?_
  have hcc : cA = c0 := by
    have h := (hK.2 1 _ hc0).2
    unfold va_RA at h
    dsimp only at h
    simp only [newarray.typeOf] at hNm
    rw [hNm] at h
    exact Option.some.inj h
  subst hcc
  refine W.cs (cells' := mSz (mNew M 101 n.toNatClampNeg n.toNatClampNeg) - sz0) (slots' := mSl (mNew M 101 n.toNatClampNeg n.toNatClampNeg) - sl0) (by rw [mSz_New]; omega) (by rw [mSl_New]; omega) ?_
  refine kk.2.2 H1 locs la (by rw [mSz_New]; omega) (by rw [mSl_New]; omega) (a3.made 101 n.toNatClampNeg n.toNatClampNeg (by rw [z1, a3.1]) (fun q' h => o1 q' (by rw [← a3.1]; exact h)) ⟨fun ci' h' h2' => ?_, fun h' => ?_⟩) (fun q' hq' => ?_) a5 a6 a7
  · rw [mKd_New, if_pos rfl] at h'
    omega
  · refine ⟨_, (show (gT G)[mKd (mNew M 101 n.toNatClampNeg n.toNatClampNeg) (mSz M) - 100]? = some (cA, .boolean) from ?_), ?_⟩
    · rw [mKd_New, if_pos rfl]; exact hc0
    · rw [e1, mLn_New, if_pos rfl, mKd_New, if_pos rfl]
      obtain ⟨-, hfr⟩ := a3.2.2.1 (mSz M) (Nat.le_refl _)
      congr 2
      funext j
      unfold me_av
      rw [mI_New, (hfr _ j).1]
      rfl
  · have := a3.2.2.2.2
    rw [o1 q' (by omega)]
    exact a4 q' hq'
end SND
