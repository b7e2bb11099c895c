/-! base; classes' numbers and slots; classes; array types (kind 100 + place); a field's type (0 int, 1 boolean, 2 a reference) -/
abbrev me_G : Type := Nat × va_G × List vw_C × List (ClassId × FieldType) × (Nat → Nat → Nat) × List Cond
abbrev gB (G : me_G) := G.1
abbrev gD (G : me_G) := G.2.1
abbrev gC (G : me_G) := G.2.2.1
abbrev gT (G : me_G) := G.2.2.2.1
abbrev gF (G : me_G) := G.2.2.2.2.1
abbrev gW (G : me_G) := G.2.2.2.2.2
/-- the words of nest mates, which no list of words keeps -/
def me_NW (G : me_G) : Prop := ∀ w ∈ gW G, (∃ (a : String) (i : Nat) (x : MethodName) (h : String), w = .methodLinkNest a i x h) ∨ ∃ C : String, w = .arrayOver (.object C)
def me_Nw (G : me_G) (U : State) : Prop := ∀ w ∈ gW G, va_Nw w U
theorem me_Nw.warm {G : me_G} (hG : me_NW G) {s U : State} (hW : s.WarmedH U.vm) (h : me_Nw G s) : me_Nw G U := by
  intro w hw
  rcases hG w hw with ⟨a, i, x, h1, rfl⟩ | ⟨C, rfl⟩
  · exact va_Nw.warmM hW (h _ hw)
  · exact va_AO.moved hW.alike (h _ hw)
def me_fv (G : me_G) (M : me_M) (ci k q : Nat) : me_V := if gF G ci k = 2 then .inr (mR M (1000 + 64 * ci + k) q 0) else .inl (mI M (1000 + 64 * ci + k) q 0)
def me_av (M : me_M) (a q j : Nat) : me_V := if 102 ≤ a then .inr (mR M a q j) else .inl (mI M a q j)
/-- the cell at q is what M says -/
def me_at (G : me_G) (M : me_M) (H : Heap) (q : Nat) : Prop :=
  (∀ ci, mKd M q = ci + 1 → ci < 99 → ∃ r : vw_C, (gC G)[ci]? = some r ∧ t_OB q ((gD G).1 ci) r.2.2 ((gD G).2 ci) H (fun k => me_v (me_fv G M ci k q))) ∧
  (100 ≤ mKd M q → ∃ t : ClassId × FieldType, (gT G)[mKd M q - 100]? = some t ∧ H[q]? = some (arrV t.1 (mLn M q) (fun j => me_v (me_av M (mKd M q) q j))))
def me_H (G : me_G) (M : me_M) (H : Heap) : Prop :=
  H.size = mSz M ∧ (∀ q, me_at G M H q) ∧ (∀ q, mSz M ≤ q → mKd M q = 0 ∧ ∀ k i, mI M k q i = 0 ∧ mR M k q i = none) ∧ (∀ q, mKd M q ≠ 0 → gB G ≤ q) ∧ gB G ≤ mSz M
theorem me_H.lt {G : me_G} {M : me_M} {H : Heap} (h : me_H G M H) {q : Nat} (hq : mKd M q ≠ 0) : q < mSz M := by
  refine Nat.lt_of_not_le fun hz => hq (h.2.2.1 q hz).1
/-- one cell is written -/
theorem me_H.write {G : me_G} {M N : me_M} {H H1 : Heap} (h : me_H G M H) (q : Nat) (hq : mKd M q ≠ 0) (e1 : mKd N = mKd M) (e2 : mLn N = mLn M) (e3 : mSz N = mSz M)
    (hI : ∀ k q' i, q' ≠ q → mI N k q' i = mI M k q' i) (hR : ∀ k q' i, q' ≠ q → mR N k q' i = mR M k q' i) (hz : H1.size = H.size) (ho : ∀ q', q' ≠ q → H1[q']? = H[q']?) (ha : me_at G N H1 q) : me_H G N H1 := by
  have hlt := h.lt hq
  obtain ⟨h1, h2, h3, h4, h5⟩ := h
  refine ⟨by rw [hz, e3]; exact h1, fun q' => ?_, fun q' hq' => ?_, fun q' hq' => h4 q' (by rw [← e1]; exact hq'), by rw [e3]; exact h5⟩
  · by_cases hqq : q' = q
    · rw [hqq]; exact ha
    · obtain ⟨a1, a2⟩ := h2 q'
      refine ⟨fun ci hk hci => ?_, fun hk => ?_⟩
      · rw [e1] at hk
        obtain ⟨r, b1, b2⟩ := a1 ci hk hci
        refine ⟨r, b1, (b2.kept (ho q' hqq)).to fun k _ => ?_⟩
        unfold me_fv
        rw [hI _ _ _ hqq, hR _ _ _ hqq]
      · rw [e1] at hk ⊢
        obtain ⟨t, b1, b2⟩ := a2 hk
        refine ⟨t, b1, ?_⟩
        rw [ho q' hqq, b2, e2]
        unfold me_av
        congr 2
        funext j
        rw [hI _ _ _ hqq, hR _ _ _ hqq]
  · rw [e3] at hq'
    have hne : q' ≠ q := by omega
    obtain ⟨b1, b2⟩ := h3 q' hq'
    refine ⟨by rw [e1]; exact b1, fun k i => ?_⟩
    rw [hI _ _ _ hne, hR _ _ _ hne]
    exact b2 k i
/-- a cell is made -/
theorem me_H.made {G : me_G} {M : me_M} {H H1 : Heap} (h : me_H G M H) (kd ln sl : Nat) (hz : H1.size = H.size + 1) (ho : ∀ q', q' < H.size → H1[q']? = H[q']?) (ha : me_at G (mNew M kd ln sl) H1 (mSz M)) : me_H G (mNew M kd ln sl) H1 := by
  have hl := @me_H.lt _ _ _ h
  obtain ⟨h1, h2, h3, h4, h5⟩ := h
  refine ⟨by rw [hz, h1]; rfl, fun q' => ?_, fun q' hq' => ?_, fun q' hq' => ?_, by rw [mSz_New]; omega⟩
  · by_cases hqq : q' = mSz M
    · rw [hqq]; exact ha
    · have ek : mKd (mNew M kd ln sl) q' = mKd M q' := by rw [mKd_New, if_neg hqq]
      have el : mLn (mNew M kd ln sl) q' = mLn M q' := by rw [mLn_New, if_neg hqq]
      obtain ⟨a1, a2⟩ := h2 q'
      refine ⟨fun ci hk hci => ?_, fun hk => ?_⟩
      · rw [ek] at hk
        obtain ⟨r, b1, b2⟩ := a1 ci hk hci
        have := hl (q := q') (by omega)
        exact ⟨r, b1, b2.kept (ho q' (by omega))⟩
      · rw [ek] at hk ⊢
        obtain ⟨t, b1, b2⟩ := a2 hk
        have := hl (q := q') (by omega)
        refine ⟨t, b1, ?_⟩
        rw [ho q' (by omega), b2, el]
        rfl
  · rw [mSz_New] at hq'
    obtain ⟨b1, b2⟩ := h3 q' (by omega)
    exact ⟨by rw [mKd_New, if_neg (by omega)]; exact b1, b2⟩
  · rw [mKd_New] at hq'
    by_cases hqq : q' = mSz M
    · omega
    · rw [if_neg hqq] at hq'
      exact h4 q' hq'
/-! locals -/
def me_lv (ls : List (Option me_V)) : List (Nat × Value) := ls.zipIdx.filterMap (fun z => z.1.map (fun x => (z.2, me_v x)))
theorem me_lv_mem {ls : List (Option me_V)} {j : Nat} {w : Value} : (j, w) ∈ me_lv ls ↔ ∃ x, ls[j]? = some (some x) ∧ w = me_v x := by
  unfold me_lv
  rw [List.mem_filterMap]
  constructor
  · rintro ⟨⟨o, i⟩, h1, h2⟩
    rw [List.mem_zipIdx_iff_getElem?] at h1
    cases o with
    | none => cases h2
    | some x =>
      simp only [Option.map_some, Option.some.injEq, Prod.mk.injEq] at h2
      obtain ⟨rfl, rfl⟩ := h2
      exact ⟨x, h1, rfl⟩
  · rintro ⟨x, h1, rfl⟩
    exact ⟨(some x, j), List.mem_zipIdx_iff_getElem?.mpr h1, rfl⟩
theorem me_cat (x : me_V) : (me_v x).category = 1 := by
  rcases x with n | (_ | a) <;> rfl
theorem me_ld {la : Array Slot} {nL : Nat} {ls : List (Option me_V)} (h : lv_has la nL (me_lv ls)) {k : Nat} {x : me_V} (hx : ls[k]? = some (some x)) : la[k]? = some (.val (me_v x)) := h.2.2 (k, me_v x) (me_lv_mem.mpr ⟨x, hx, rfl⟩)
theorem me_st {la : Array Slot} {nL : Nat} {ls : List (Option me_V)} {k : Nat} {x : me_V} (h : lv_has la nL ((k, me_v x) :: (me_lv ls).filter (fun q => !(q.1 == k) && !(q.1 + 1 == k && q.2.category == 2)))) : lv_has la nL (me_lv (ls.set k (some x))) := by
  refine ⟨h.1, h.2.1, fun q hq => ?_⟩
  obtain ⟨j, w⟩ := q
  obtain ⟨y, hy, rfl⟩ := me_lv_mem.mp hq
  rw [List.getElem?_set] at hy
  by_cases hj : k = j
  · subst hj
    rw [if_pos rfl] at hy
    split at hy
    · cases hy
      exact h.2.2 _ List.mem_cons_self
    · cases hy
  · rw [if_neg hj] at hy
    refine h.2.2 _ (List.mem_cons_of_mem _ (List.mem_filter.mpr ⟨me_lv_mem.mpr ⟨y, hy, rfl⟩, ?_⟩))
    have hj2 : ¬ j = k := fun z => hj z.symm
    simp [hj2, me_cat]
/-- the machine's side of the rules -/
def me_JW (p : Program) (l : Launch) (e : Env) (R : Room) (s : State) (m : MethodId) (args : Array Value) (below : List Frame) (meth : Method) (c : Code) (Q : State → Prop) (G : me_G) (nL sz0 sl0 : Nat) (H0 : Heap) (N : me_M) : me_J := fun pc ls st M =>
  mSz M ≤ mSz N ∧ mSl M ≤ mSl N ∧ ∀ (H : Heap) (locs : List Loc) (la : Array Slot), sz0 ≤ mSz M → sl0 ≤ mSl M → me_H G M H → (∀ q, q < gB G → H[q]? = H0[q]?) → (∀ q ∈ locs, gB G ≤ q.base) → lv_has la nL (me_lv ls) → ls.length = nL →
    W p l e R s m args below meth c H locs (mSz M - sz0) (mSl M - sl0) Q (F0 m pc la (st.map me_v))
section SND
variable {p : Program} {l : Launch} {e : Env} {R : Room} {s : State} {m : MethodId} {args : Array Value} {below : List Frame} {meth : Method} {c : Code} {Q : State → Prop}
variable {G : me_G} {nL sz0 sl0 : Nat} {H0 : Heap} {X : me_X} {v : Option me_V} {N : me_M} {el : Nat → Nat} {own : String}

theorem so_iconst (hx : p.tables.exec = Jvm.exec) (hb : c.code = xC X) : me_rule el X v N (me_JW p l e R s m args below meth c Q G nL sz0 sl0 H0 N) 0 := by
  intro pc ls st M n w d hw kk
  exact ⟨kk.1, kk.2.1, fun H locs la a1 a2 a3 a4 a5 a6 a7 => lv_iconst hx hb d hw (kk.2.2 H locs la a1 a2 a3 a4 a5 a6 a7)⟩
theorem so_bipush (hx : p.tables.exec = Jvm.exec) (hb : c.code = xC X) : me_rule el X v N (me_JW p l e R s m args below meth c Q G nL sz0 sl0 H0 N) 1 := by
  intro pc ls st M n w d hw kk
  exact ⟨kk.1, kk.2.1, fun H locs la a1 a2 a3 a4 a5 a6 a7 => lv_bipush hx hb d hw (kk.2.2 H locs la a1 a2 a3 a4 a5 a6 a7)⟩
theorem so_sipush (hx : p.tables.exec = Jvm.exec) (hb : c.code = xC X) : me_rule el X v N (me_JW p l e R s m args below meth c Q G nL sz0 sl0 H0 N) 2 := by
  intro pc ls st M n w d hw kk
  exact ⟨kk.1, kk.2.1, fun H locs la a1 a2 a3 a4 a5 a6 a7 => lv_sipush hx hb d hw (kk.2.2 H locs la a1 a2 a3 a4 a5 a6 a7)⟩
theorem so_ldc (hx : p.tables.exec = Jvm.exec) (hb : c.code = xC X) (hown : s.vm.findClass own = some m.cls) (hc : ∀ n w, xK X n = some w → (Jvm.Cond.constant own n w).before args s = true) : me_rule el X v N (me_JW p l e R s m args below meth c Q G nL sz0 sl0 H0 N) 3 := by
  intro pc ls st M n w d hw kk
  exact ⟨kk.1, kk.2.1, fun H locs la a1 a2 a3 a4 a5 a6 a7 => lv_ldc hx hb hown (hc _ _ hw) d (kk.2.2 H locs la a1 a2 a3 a4 a5 a6 a7)⟩
theorem so_null (hx : p.tables.exec = Jvm.exec) (hb : c.code = xC X) : me_rule el X v N (me_JW p l e R s m args below meth c Q G nL sz0 sl0 H0 N) 4 := by
  intro pc ls st M d kk
  exact ⟨kk.1, kk.2.1, fun H locs la a1 a2 a3 a4 a5 a6 a7 => lv_null hx hb d (kk.2.2 H locs la a1 a2 a3 a4 a5 a6 a7)⟩
theorem so_iload_n (hx : p.tables.exec = Jvm.exec) (hb : c.code = xC X) : me_rule el X v N (me_JW p l e R s m args below meth c Q G nL sz0 sl0 H0 N) 5 := by
  intro pc ls st M k x d hl kk
  exact ⟨kk.1, kk.2.1, fun H locs la a1 a2 a3 a4 a5 a6 a7 => lv_iload_n hx hb d rfl (me_ld a6 hl) (kk.2.2 H locs la a1 a2 a3 a4 a5 a6 a7)⟩
theorem so_iload (hx : p.tables.exec = Jvm.exec) (hb : c.code = xC X) : me_rule el X v N (me_JW p l e R s m args below meth c Q G nL sz0 sl0 H0 N) 6 := by
  intro pc ls st M k x d hl kk
  exact ⟨kk.1, kk.2.1, fun H locs la a1 a2 a3 a4 a5 a6 a7 => lv_iload hx hb d (me_ld a6 hl) (kk.2.2 H locs la a1 a2 a3 a4 a5 a6 a7)⟩
theorem so_aload_n (hx : p.tables.exec = Jvm.exec) (hb : c.code = xC X) : me_rule el X v N (me_JW p l e R s m args below meth c Q G nL sz0 sl0 H0 N) 7 := by
  intro pc ls st M k x d hl kk
  refine ⟨kk.1, kk.2.1, fun H locs la a1 a2 a3 a4 a5 a6 a7 => ?_⟩
  cases x with
  | none => exact lv_aload_nN hx hb d rfl (me_ld a6 hl) (kk.2.2 H locs la a1 a2 a3 a4 a5 a6 a7)
  | some a => exact lv_aload_n hx hb d rfl (me_ld a6 hl) (kk.2.2 H locs la a1 a2 a3 a4 a5 a6 a7)
theorem so_aload (hx : p.tables.exec = Jvm.exec) (hb : c.code = xC X) : me_rule el X v N (me_JW p l e R s m args below meth c Q G nL sz0 sl0 H0 N) 8 := by
  intro pc ls st M k x d hl kk
  refine ⟨kk.1, kk.2.1, fun H locs la a1 a2 a3 a4 a5 a6 a7 => ?_⟩
  cases x with
  | none => exact lv_aloadN hx hb d (me_ld a6 hl) (kk.2.2 H locs la a1 a2 a3 a4 a5 a6 a7)
  | some a => exact lv_aload hx hb d (me_ld a6 hl) (kk.2.2 H locs la a1 a2 a3 a4 a5 a6 a7)
theorem so_istore_n (hx : p.tables.exec = Jvm.exec) (hb : c.code = xC X) : me_rule el X v N (me_JW p l e R s m args below meth c Q G nL sz0 sl0 H0 N) 9 := by
  intro pc ls st M k x ls2 d hk hs kk
  exact ⟨kk.1, kk.2.1, fun H locs la a1 a2 a3 a4 a5 a6 a7 => lv_istore_n hx hb d rfl a6 (by rw [← a7]; exact hk) rfl (fun la2 a8 => by subst hs; exact kk.2.2 H locs la2 a1 a2 a3 a4 a5 (me_st a8) (by rw [List.length_set]; exact a7))⟩
theorem so_istore (hx : p.tables.exec = Jvm.exec) (hb : c.code = xC X) : me_rule el X v N (me_JW p l e R s m args below meth c Q G nL sz0 sl0 H0 N) 10 := by
  intro pc ls st M k x ls2 d hk hs kk
  exact ⟨kk.1, kk.2.1, fun H locs la a1 a2 a3 a4 a5 a6 a7 => lv_istore hx hb d a6 (by rw [← a7]; exact hk) rfl (fun la2 a8 => by subst hs; exact kk.2.2 H locs la2 a1 a2 a3 a4 a5 (me_st a8) (by rw [List.length_set]; exact a7))⟩
theorem so_astore_n (hx : p.tables.exec = Jvm.exec) (hb : c.code = xC X) : me_rule el X v N (me_JW p l e R s m args below meth c Q G nL sz0 sl0 H0 N) 11 := by
  intro pc ls st M k x ls2 d hk hs kk
  refine ⟨kk.1, kk.2.1, fun H locs la a1 a2 a3 a4 a5 a6 a7 => ?_⟩
  cases x with
  | none => exact lv_astore_nN hx hb d rfl a6 (by rw [← a7]; exact hk) rfl (fun la2 a8 => by subst hs; exact kk.2.2 H locs la2 a1 a2 a3 a4 a5 (me_st a8) (by rw [List.length_set]; exact a7))
  | some a => exact lv_astore_n hx hb d rfl a6 (by rw [← a7]; exact hk) rfl (fun la2 a8 => by subst hs; exact kk.2.2 H locs la2 a1 a2 a3 a4 a5 (me_st a8) (by rw [List.length_set]; exact a7))
theorem so_astore (hx : p.tables.exec = Jvm.exec) (hb : c.code = xC X) : me_rule el X v N (me_JW p l e R s m args below meth c Q G nL sz0 sl0 H0 N) 12 := by
  intro pc ls st M k x ls2 d hk hs kk
  refine ⟨kk.1, kk.2.1, fun H locs la a1 a2 a3 a4 a5 a6 a7 => ?_⟩
  cases x with
  | none => exact lv_astoreN hx hb d a6 (by rw [← a7]; exact hk) rfl (fun la2 a8 => by subst hs; exact kk.2.2 H locs la2 a1 a2 a3 a4 a5 (me_st a8) (by rw [List.length_set]; exact a7))
  | some a => exact lv_astore hx hb d a6 (by rw [← a7]; exact hk) rfl (fun la2 a8 => by subst hs; exact kk.2.2 H locs la2 a1 a2 a3 a4 a5 (me_st a8) (by rw [List.length_set]; exact a7))
theorem so_iinc (hx : p.tables.exec = Jvm.exec) (hb : c.code = xC X) : me_rule el X v N (me_JW p l e R s m args below meth c Q G nL sz0 sl0 H0 N) 13 := by
  intro pc ls st M k n x ls2 d hl hs kk
  refine ⟨kk.1, kk.2.1, fun H locs la a1 a2 a3 a4 a5 a6 a7 => ?_⟩
  obtain ⟨j, hj⟩ := List.getElem?_of_mem (me_lv_mem.mpr ⟨_, hl, rfl⟩)
  have hk : k < nL := by rw [← a7]; exact (List.getElem?_eq_some_iff.mp hl).1
  exact lv_iinc hx hb d a6 hj rfl hk rfl (fun la2 a8 => by subst hs; exact kk.2.2 H locs la2 a1 a2 a3 a4 a5 (me_st a8) (by rw [List.length_set]; exact a7))
theorem so_iadd (hx : p.tables.exec = Jvm.exec) (hb : c.code = xC X) : me_rule el X v N (me_JW p l e R s m args below meth c Q G nL sz0 sl0 H0 N) 14 := by
  intro pc ls st M x y d kk
  exact ⟨kk.1, kk.2.1, fun H locs la a1 a2 a3 a4 a5 a6 a7 => lv_iadd hx hb d (kk.2.2 H locs la a1 a2 a3 a4 a5 a6 a7)⟩
theorem so_isub (hx : p.tables.exec = Jvm.exec) (hb : c.code = xC X) : me_rule el X v N (me_JW p l e R s m args below meth c Q G nL sz0 sl0 H0 N) 15 := by
  intro pc ls st M x y d kk
  exact ⟨kk.1, kk.2.1, fun H locs la a1 a2 a3 a4 a5 a6 a7 => lv_isub hx hb d (kk.2.2 H locs la a1 a2 a3 a4 a5 a6 a7)⟩
theorem so_imul (hx : p.tables.exec = Jvm.exec) (hb : c.code = xC X) : me_rule el X v N (me_JW p l e R s m args below meth c Q G nL sz0 sl0 H0 N) 16 := by
  intro pc ls st M x y d kk
  exact ⟨kk.1, kk.2.1, fun H locs la a1 a2 a3 a4 a5 a6 a7 => lv_imul hx hb d (kk.2.2 H locs la a1 a2 a3 a4 a5 a6 a7)⟩
theorem so_iand (hx : p.tables.exec = Jvm.exec) (hb : c.code = xC X) : me_rule el X v N (me_JW p l e R s m args below meth c Q G nL sz0 sl0 H0 N) 17 := by
  intro pc ls st M x y d kk
  exact ⟨kk.1, kk.2.1, fun H locs la a1 a2 a3 a4 a5 a6 a7 => lv_iand hx hb d (kk.2.2 H locs la a1 a2 a3 a4 a5 a6 a7)⟩
theorem so_ior (hx : p.tables.exec = Jvm.exec) (hb : c.code = xC X) : me_rule el X v N (me_JW p l e R s m args below meth c Q G nL sz0 sl0 H0 N) 18 := by
  intro pc ls st M x y d kk
  exact ⟨kk.1, kk.2.1, fun H locs la a1 a2 a3 a4 a5 a6 a7 => lv_ior hx hb d (kk.2.2 H locs la a1 a2 a3 a4 a5 a6 a7)⟩
theorem so_ixor (hx : p.tables.exec = Jvm.exec) (hb : c.code = xC X) : me_rule el X v N (me_JW p l e R s m args below meth c Q G nL sz0 sl0 H0 N) 19 := by
  intro pc ls st M x y d kk
  exact ⟨kk.1, kk.2.1, fun H locs la a1 a2 a3 a4 a5 a6 a7 => lv_ixor hx hb d (kk.2.2 H locs la a1 a2 a3 a4 a5 a6 a7)⟩
theorem so_ishl (hx : p.tables.exec = Jvm.exec) (hb : c.code = xC X) : me_rule el X v N (me_JW p l e R s m args below meth c Q G nL sz0 sl0 H0 N) 20 := by
  intro pc ls st M x y d kk
  exact ⟨kk.1, kk.2.1, fun H locs la a1 a2 a3 a4 a5 a6 a7 => lv_ishl hx hb d (kk.2.2 H locs la a1 a2 a3 a4 a5 a6 a7)⟩
theorem so_ishr (hx : p.tables.exec = Jvm.exec) (hb : c.code = xC X) : me_rule el X v N (me_JW p l e R s m args below meth c Q G nL sz0 sl0 H0 N) 21 := by
  intro pc ls st M x y d kk
  exact ⟨kk.1, kk.2.1, fun H locs la a1 a2 a3 a4 a5 a6 a7 => lv_ishr hx hb d (kk.2.2 H locs la a1 a2 a3 a4 a5 a6 a7)⟩
theorem so_ineg (hx : p.tables.exec = Jvm.exec) (hb : c.code = xC X) : me_rule el X v N (me_JW p l e R s m args below meth c Q G nL sz0 sl0 H0 N) 24 := by
  intro pc ls st M x d kk
  exact ⟨kk.1, kk.2.1, fun H locs la a1 a2 a3 a4 a5 a6 a7 => lv_ineg hx hb d (kk.2.2 H locs la a1 a2 a3 a4 a5 a6 a7)⟩
theorem so_idiv (hx : p.tables.exec = Jvm.exec) (hb : c.code = xC X) : me_rule el X v N (me_JW p l e R s m args below meth c Q G nL sz0 sl0 H0 N) 22 := by
  intro pc ls st M x y d hy kk
  exact ⟨kk.1, kk.2.1, fun H locs la a1 a2 a3 a4 a5 a6 a7 => lv_idiv hx hb d hy (kk.2.2 H locs la a1 a2 a3 a4 a5 a6 a7)⟩
theorem so_irem (hx : p.tables.exec = Jvm.exec) (hb : c.code = xC X) : me_rule el X v N (me_JW p l e R s m args below meth c Q G nL sz0 sl0 H0 N) 23 := by
  intro pc ls st M x y d hy kk
  exact ⟨kk.1, kk.2.1, fun H locs la a1 a2 a3 a4 a5 a6 a7 => lv_irem hx hb d hy (kk.2.2 H locs la a1 a2 a3 a4 a5 a6 a7)⟩
theorem so_dup (hx : p.tables.exec = Jvm.exec) (hb : c.code = xC X) : me_rule el X v N (me_JW p l e R s m args below meth c Q G nL sz0 sl0 H0 N) 25 := by
  intro pc ls st M x d kk
  exact ⟨kk.1, kk.2.1, fun H locs la a1 a2 a3 a4 a5 a6 a7 => lv_dup hx hb d (me_cat x) (kk.2.2 H locs la a1 a2 a3 a4 a5 a6 a7)⟩
theorem so_pop (hx : p.tables.exec = Jvm.exec) (hb : c.code = xC X) : me_rule el X v N (me_JW p l e R s m args below meth c Q G nL sz0 sl0 H0 N) 26 := by
  intro pc ls st M x d kk
  exact ⟨kk.1, kk.2.1, fun H locs la a1 a2 a3 a4 a5 a6 a7 => lv_pop hx hb d (me_cat x) (kk.2.2 H locs la a1 a2 a3 a4 a5 a6 a7)⟩
theorem so_dup_x1 (hx : p.tables.exec = Jvm.exec) (hb : c.code = xC X) : me_rule el X v N (me_JW p l e R s m args below meth c Q G nL sz0 sl0 H0 N) 27 := by
  intro pc ls st M x y d kk
  exact ⟨kk.1, kk.2.1, fun H locs la a1 a2 a3 a4 a5 a6 a7 => lv_dup_x1 hx hb d (me_cat x) (me_cat y) (kk.2.2 H locs la a1 a2 a3 a4 a5 a6 a7)⟩
theorem so_dup_x2 (hx : p.tables.exec = Jvm.exec) (hb : c.code = xC X) : me_rule el X v N (me_JW p l e R s m args below meth c Q G nL sz0 sl0 H0 N) 28 := by
  intro pc ls st M x y z d kk
  exact ⟨kk.1, kk.2.1, fun H locs la a1 a2 a3 a4 a5 a6 a7 => lv_dup_x2 hx hb d (me_cat x) (me_cat y) (me_cat z) (kk.2.2 H locs la a1 a2 a3 a4 a5 a6 a7)⟩
theorem so_dup2 (hx : p.tables.exec = Jvm.exec) (hb : c.code = xC X) : me_rule el X v N (me_JW p l e R s m args below meth c Q G nL sz0 sl0 H0 N) 29 := by
  intro pc ls st M x y d kk
  exact ⟨kk.1, kk.2.1, fun H locs la a1 a2 a3 a4 a5 a6 a7 => lv_dup2_11 hx hb d (me_cat x) (me_cat y) (kk.2.2 H locs la a1 a2 a3 a4 a5 a6 a7)⟩
theorem so_if_eq (hx : p.tables.exec = Jvm.exec) (hb : c.code = xC X) : me_rule el X v N (me_JW p l e R s m args below meth c Q G nL sz0 sl0 H0 N) 30 := by
  intro pc ls st M x off tgt d ht kt kf
  refine ⟨?_, ?_, fun H locs la a1 a2 a3 a4 a5 a6 a7 => ?_⟩
  · by_cases hg : x = 0
    · exact (kt hg).1
    · exact (kf hg).1
  · by_cases hg : x = 0
    · exact (kt hg).2.1
    · exact (kf hg).2.1
  · exact lv_if_eq hx hb d ht (fun h => (kt h).2.2 H locs la a1 a2 a3 a4 a5 a6 a7) (fun h => (kf h).2.2 H locs la a1 a2 a3 a4 a5 a6 a7)
theorem so_icmp_eq (hx : p.tables.exec = Jvm.exec) (hb : c.code = xC X) : me_rule el X v N (me_JW p l e R s m args below meth c Q G nL sz0 sl0 H0 N) 36 := by
  intro pc ls st M x y off tgt d ht kt kf
  refine ⟨?_, ?_, fun H locs la a1 a2 a3 a4 a5 a6 a7 => ?_⟩
  · by_cases hg : x = y
    · exact (kt hg).1
    · exact (kf hg).1
  · by_cases hg : x = y
    · exact (kt hg).2.1
    · exact (kf hg).2.1
  · exact lv_icmp_eq hx hb d ht (fun h => (kt h).2.2 H locs la a1 a2 a3 a4 a5 a6 a7) (fun h => (kf h).2.2 H locs la a1 a2 a3 a4 a5 a6 a7)
theorem so_if_ne (hx : p.tables.exec = Jvm.exec) (hb : c.code = xC X) : me_rule el X v N (me_JW p l e R s m args below meth c Q G nL sz0 sl0 H0 N) 31 := by
  intro pc ls st M x off tgt d ht kt kf
  refine ⟨?_, ?_, fun H locs la a1 a2 a3 a4 a5 a6 a7 => ?_⟩
  · by_cases hg : x = 0
    · exact (kf hg).1
    · exact (kt hg).1
  · by_cases hg : x = 0
    · exact (kf hg).2.1
    · exact (kt hg).2.1
  · exact lv_if_ne hx hb d ht (fun h => (kt h).2.2 H locs la a1 a2 a3 a4 a5 a6 a7) (fun h => (kf h).2.2 H locs la a1 a2 a3 a4 a5 a6 a7)
theorem so_icmp_ne (hx : p.tables.exec = Jvm.exec) (hb : c.code = xC X) : me_rule el X v N (me_JW p l e R s m args below meth c Q G nL sz0 sl0 H0 N) 37 := by
  intro pc ls st M x y off tgt d ht kt kf
  refine ⟨?_, ?_, fun H locs la a1 a2 a3 a4 a5 a6 a7 => ?_⟩
  · by_cases hg : x = y
    · exact (kf hg).1
    · exact (kt hg).1
  · by_cases hg : x = y
    · exact (kf hg).2.1
    · exact (kt hg).2.1
  · exact lv_icmp_ne hx hb d ht (fun h => (kt h).2.2 H locs la a1 a2 a3 a4 a5 a6 a7) (fun h => (kf h).2.2 H locs la a1 a2 a3 a4 a5 a6 a7)
theorem so_if_lt (hx : p.tables.exec = Jvm.exec) (hb : c.code = xC X) : me_rule el X v N (me_JW p l e R s m args below meth c Q G nL sz0 sl0 H0 N) 32 := by
  intro pc ls st M x off tgt d ht kt kf
  refine ⟨?_, ?_, fun H locs la a1 a2 a3 a4 a5 a6 a7 => ?_⟩
  · by_cases hg : x < 0
    · exact (kt hg).1
    · exact (kf hg).1
  · by_cases hg : x < 0
    · exact (kt hg).2.1
    · exact (kf hg).2.1
  · exact lv_if_lt hx hb d ht (fun h => (kt h).2.2 H locs la a1 a2 a3 a4 a5 a6 a7) (fun h => (kf h).2.2 H locs la a1 a2 a3 a4 a5 a6 a7)
theorem so_icmp_lt (hx : p.tables.exec = Jvm.exec) (hb : c.code = xC X) : me_rule el X v N (me_JW p l e R s m args below meth c Q G nL sz0 sl0 H0 N) 38 := by
  intro pc ls st M x y off tgt d ht kt kf
  refine ⟨?_, ?_, fun H locs la a1 a2 a3 a4 a5 a6 a7 => ?_⟩
  · by_cases hg : x < y
    · exact (kt hg).1
    · exact (kf hg).1
  · by_cases hg : x < y
    · exact (kt hg).2.1
    · exact (kf hg).2.1
  · exact lv_icmp_lt hx hb d ht (fun h => (kt h).2.2 H locs la a1 a2 a3 a4 a5 a6 a7) (fun h => (kf h).2.2 H locs la a1 a2 a3 a4 a5 a6 a7)
theorem so_if_ge (hx : p.tables.exec = Jvm.exec) (hb : c.code = xC X) : me_rule el X v N (me_JW p l e R s m args below meth c Q G nL sz0 sl0 H0 N) 33 := by
  intro pc ls st M x off tgt d ht kt kf
  refine ⟨?_, ?_, fun H locs la a1 a2 a3 a4 a5 a6 a7 => ?_⟩
  · by_cases hg : 0 ≤ x
    · exact (kt hg).1
    · exact (kf hg).1
  · by_cases hg : 0 ≤ x
    · exact (kt hg).2.1
    · exact (kf hg).2.1
  · exact lv_if_ge hx hb d ht (fun h => (kt h).2.2 H locs la a1 a2 a3 a4 a5 a6 a7) (fun h => (kf h).2.2 H locs la a1 a2 a3 a4 a5 a6 a7)
theorem so_icmp_ge (hx : p.tables.exec = Jvm.exec) (hb : c.code = xC X) : me_rule el X v N (me_JW p l e R s m args below meth c Q G nL sz0 sl0 H0 N) 39 := by
  intro pc ls st M x y off tgt d ht kt kf
  refine ⟨?_, ?_, fun H locs la a1 a2 a3 a4 a5 a6 a7 => ?_⟩
  · by_cases hg : y ≤ x
    · exact (kt hg).1
    · exact (kf hg).1
  · by_cases hg : y ≤ x
    · exact (kt hg).2.1
    · exact (kf hg).2.1
  · exact lv_icmp_ge hx hb d ht (fun h => (kt h).2.2 H locs la a1 a2 a3 a4 a5 a6 a7) (fun h => (kf h).2.2 H locs la a1 a2 a3 a4 a5 a6 a7)
theorem so_if_gt (hx : p.tables.exec = Jvm.exec) (hb : c.code = xC X) : me_rule el X v N (me_JW p l e R s m args below meth c Q G nL sz0 sl0 H0 N) 34 := by
  intro pc ls st M x off tgt d ht kt kf
  refine ⟨?_, ?_, fun H locs la a1 a2 a3 a4 a5 a6 a7 => ?_⟩
  · by_cases hg : 0 < x
    · exact (kt hg).1
    · exact (kf hg).1
  · by_cases hg : 0 < x
    · exact (kt hg).2.1
    · exact (kf hg).2.1
  · exact lv_if_gt hx hb d ht (fun h => (kt h).2.2 H locs la a1 a2 a3 a4 a5 a6 a7) (fun h => (kf h).2.2 H locs la a1 a2 a3 a4 a5 a6 a7)
theorem so_icmp_gt (hx : p.tables.exec = Jvm.exec) (hb : c.code = xC X) : me_rule el X v N (me_JW p l e R s m args below meth c Q G nL sz0 sl0 H0 N) 40 := by
  intro pc ls st M x y off tgt d ht kt kf
  refine ⟨?_, ?_, fun H locs la a1 a2 a3 a4 a5 a6 a7 => ?_⟩
  · by_cases hg : y < x
    · exact (kt hg).1
    · exact (kf hg).1
  · by_cases hg : y < x
    · exact (kt hg).2.1
    · exact (kf hg).2.1
  · exact lv_icmp_gt hx hb d ht (fun h => (kt h).2.2 H locs la a1 a2 a3 a4 a5 a6 a7) (fun h => (kf h).2.2 H locs la a1 a2 a3 a4 a5 a6 a7)
theorem so_if_le (hx : p.tables.exec = Jvm.exec) (hb : c.code = xC X) : me_rule el X v N (me_JW p l e R s m args below meth c Q G nL sz0 sl0 H0 N) 35 := by
  intro pc ls st M x off tgt d ht kt kf
  refine ⟨?_, ?_, fun H locs la a1 a2 a3 a4 a5 a6 a7 => ?_⟩
  · by_cases hg : x ≤ 0
    · exact (kt hg).1
    · exact (kf hg).1
  · by_cases hg : x ≤ 0
    · exact (kt hg).2.1
    · exact (kf hg).2.1
  · exact lv_if_le hx hb d ht (fun h => (kt h).2.2 H locs la a1 a2 a3 a4 a5 a6 a7) (fun h => (kf h).2.2 H locs la a1 a2 a3 a4 a5 a6 a7)
theorem so_icmp_le (hx : p.tables.exec = Jvm.exec) (hb : c.code = xC X) : me_rule el X v N (me_JW p l e R s m args below meth c Q G nL sz0 sl0 H0 N) 41 := by
  intro pc ls st M x y off tgt d ht kt kf
  refine ⟨?_, ?_, fun H locs la a1 a2 a3 a4 a5 a6 a7 => ?_⟩
  · by_cases hg : x ≤ y
    · exact (kt hg).1
    · exact (kf hg).1
  · by_cases hg : x ≤ y
    · exact (kt hg).2.1
    · exact (kf hg).2.1
  · exact lv_icmp_le hx hb d ht (fun h => (kt h).2.2 H locs la a1 a2 a3 a4 a5 a6 a7) (fun h => (kf h).2.2 H locs la a1 a2 a3 a4 a5 a6 a7)
theorem so_acmp_eq (hx : p.tables.exec = Jvm.exec) (hb : c.code = xC X) : me_rule el X v N (me_JW p l e R s m args below meth c Q G nL sz0 sl0 H0 N) 42 := by
  intro pc ls st M x y off tgt d ht kt kf
  refine ⟨?_, ?_, fun H locs la a1 a2 a3 a4 a5 a6 a7 => ?_⟩
  · by_cases hg : x = y
    · exact (kt hg).1
    · exact (kf hg).1
  · by_cases hg : x = y
    · exact (kt hg).2.1
    · exact (kf hg).2.1
  · exact lv_acmp_eq hx hb d ht (fun h => (kt h).2.2 H locs la a1 a2 a3 a4 a5 a6 a7) (fun h => (kf h).2.2 H locs la a1 a2 a3 a4 a5 a6 a7)
theorem so_acmp_ne (hx : p.tables.exec = Jvm.exec) (hb : c.code = xC X) : me_rule el X v N (me_JW p l e R s m args below meth c Q G nL sz0 sl0 H0 N) 43 := by
  intro pc ls st M x y off tgt d ht kt kf
  refine ⟨?_, ?_, fun H locs la a1 a2 a3 a4 a5 a6 a7 => ?_⟩
  · by_cases hg : x = y
    · exact (kf hg).1
    · exact (kt hg).1
  · by_cases hg : x = y
    · exact (kf hg).2.1
    · exact (kt hg).2.1
  · exact lv_acmp_ne hx hb d ht (fun h => (kt h).2.2 H locs la a1 a2 a3 a4 a5 a6 a7) (fun h => (kf h).2.2 H locs la a1 a2 a3 a4 a5 a6 a7)
theorem so_ifnull (hx : p.tables.exec = Jvm.exec) (hb : c.code = xC X) : me_rule el X v N (me_JW p l e R s m args below meth c Q G nL sz0 sl0 H0 N) 44 := by
  intro pc ls st M x off tgt d ht kt kf
  refine ⟨?_, ?_, fun H locs la a1 a2 a3 a4 a5 a6 a7 => ?_⟩
  · by_cases hg : x = none
    · exact (kt hg).1
    · exact (kf hg).1
  · by_cases hg : x = none
    · exact (kt hg).2.1
    · exact (kf hg).2.1
  · cases x with
    | none => exact lv_ifnullN hx hb d ht ((kt rfl).2.2 H locs la a1 a2 a3 a4 a5 a6 a7)
    | some a => exact lv_ifnull hx hb d ((kf (fun z => by cases z)).2.2 H locs la a1 a2 a3 a4 a5 a6 a7)
theorem so_ifnonnull (hx : p.tables.exec = Jvm.exec) (hb : c.code = xC X) : me_rule el X v N (me_JW p l e R s m args below meth c Q G nL sz0 sl0 H0 N) 45 := by
  intro pc ls st M x off tgt d ht kt kf
  refine ⟨?_, ?_, fun H locs la a1 a2 a3 a4 a5 a6 a7 => ?_⟩
  · by_cases hg : x = none
    · exact (kf hg).1
    · exact (kt hg).1
  · by_cases hg : x = none
    · exact (kf hg).2.1
    · exact (kt hg).2.1
  · cases x with
    | none => exact lv_ifnonnullN hx hb d ((kf rfl).2.2 H locs la a1 a2 a3 a4 a5 a6 a7)
    | some a => exact lv_ifnonnull hx hb d ht ((kt (fun z => by cases z)).2.2 H locs la a1 a2 a3 a4 a5 a6 a7)
theorem me_dr {la : Array Slot} {nL : Nat} {ls : List (Option me_V)} {k : Nat} (h : lv_has la nL (me_lv ls)) : lv_has la nL (me_lv (ls.set k none)) := by
  refine ⟨h.1, h.2.1, fun q hq => ?_⟩
  obtain ⟨j, w⟩ := q
  obtain ⟨y, hy, rfl⟩ := me_lv_mem.mp hq
  rw [List.getElem?_set] at hy
  by_cases hj : k = j
  · rw [if_pos hj] at hy
    split at hy <;> cases hy
  · rw [if_neg hj] at hy
    exact h.2.2 _ (me_lv_mem.mpr ⟨y, hy, rfl⟩)
theorem so_drop (_hx : p.tables.exec = Jvm.exec) (_hb : c.code = xC X) : me_rule el X v N (me_JW p l e R s m args below meth c Q G nL sz0 sl0 H0 N) 69 := by
  intro pc ls st M k ls2 hs kk
  refine ⟨kk.1, kk.2.1, fun H locs la a1 a2 a3 a4 a5 a6 a7 => ?_⟩
  subst hs
  exact kk.2.2 H locs la a1 a2 a3 a4 a5 (me_dr a6) (by rw [List.length_set]; exact a7)
theorem so_goto (hx : p.tables.exec = Jvm.exec) (hb : c.code = xC X) : me_rule el X v N (me_JW p l e R s m args below meth c Q G nL sz0 sl0 H0 N) 46 := by
  intro pc ls st M off tgt d ht kk
  exact ⟨kk.1, kk.2.1, fun H locs la a1 a2 a3 a4 a5 a6 a7 => lv_goto hx hb d ht (kk.2.2 H locs la a1 a2 a3 a4 a5 a6 a7)⟩
theorem so_tabIn (hx : p.tables.exec = Jvm.exec) (hb : c.code = xC X) : me_rule el X v N (me_JW p l e R s m args below meth c Q G nL sz0 sl0 H0 N) 47 := by
  intro pc ls st M x dflt lo hi offs len off tgt d h1 h2 ho ht kk
  exact ⟨kk.1, kk.2.1, fun H locs la a1 a2 a3 a4 a5 a6 a7 => lv_tableIn hx hb d h1 h2 ho ht (kk.2.2 H locs la a1 a2 a3 a4 a5 a6 a7)⟩
theorem so_tabOut (hx : p.tables.exec = Jvm.exec) (hb : c.code = xC X) : me_rule el X v N (me_JW p l e R s m args below meth c Q G nL sz0 sl0 H0 N) 48 := by
  intro pc ls st M x dflt lo hi offs len tgt d h ht kk
  exact ⟨kk.1, kk.2.1, fun H locs la a1 a2 a3 a4 a5 a6 a7 => lv_tableOut hx hb d h ht (kk.2.2 H locs la a1 a2 a3 a4 a5 a6 a7)⟩
theorem so_lookup (hx : p.tables.exec = Jvm.exec) (hb : c.code = xC X) : me_rule el X v N (me_JW p l e R s m args below meth c Q G nL sz0 sl0 H0 N) 49 := by
  intro pc ls st M x dflt ps len off tgt d hp ho ht kk
  exact ⟨kk.1, kk.2.1, fun H locs la a1 a2 a3 a4 a5 a6 a7 => lv_lookup hx hb d hp ho ht (kk.2.2 H locs la a1 a2 a3 a4 a5 a6 a7)⟩
/-- what the tables say of a method's fields -/
def me_TF (G : me_G) (own : String) (args : Array Value) (s : State) (fi : Prop) (tab : Nat → Option (Nat × Nat × Nat × Nat)) : Prop := ∀ idx ci k key ty, tab idx = some (ci, k, key, ty) → ci < 99 ∧ key = 1000 + 64 * ci + k ∧ ty = gF G ci k ∧ ∃ r : vw_C, (gC G)[ci]? = some r ∧ k < r.2.2 ∧
  (∀ w ∈ u_ws r.1 r.2.1 r.2.2, w.before args s = true) ∧ (r.2.1 k).1 = r.1 ∧ (Cond.fieldLink own idx r.1 (r.2.1 k).2.1 (r.2.1 k).2.2.1).before args s = true ∧ ((r.2.1 k).2.2.2 = true → fi → r.1 = own)
def me_ty (t : FieldType) (n : Nat) : Prop := (n = 0 ∧ t = .int) ∨ (n = 1 ∧ t = .boolean) ∨ (n = 2 ∧ ((∃ a, t = .object a) ∨ ∃ a, t = .array a))
def me_CL (G : me_G) : Prop := ∀ (ci : Nat) (r : vw_C), (gC G)[ci]? = some r → (∀ a, a < r.2.2 → ∀ b, b < r.2.2 → a ≠ b → (r.2.1 a).2.1 ≠ (r.2.1 b).2.1) ∧ ∃ ty : Nat → FieldType, (∀ k, k < r.2.2 → parseFieldDescriptor (r.2.1 k).2.2.1 = some (ty k)) ∧ ∀ k, k < r.2.2 → me_ty (ty k) (gF G ci k)

theorem so_getI (hx : p.tables.exec = Jvm.exec) (hb : c.code = xC X) (hown : s.vm.findClass own = some m.cls) (hK : va_K (gD G) (gC G) (gT G) s) (hT : me_TF G own args s False (xF X)) : me_rule el X v N (me_JW p l e R s m args below meth c Q G nL sz0 sl0 H0 N) 50 := by
  intro pc ls st M q idx ci k key ty d hf ht hk kk
  refine ⟨kk.1, kk.2.1, fun H locs la a1 a2 a3 a4 a5 a6 a7 => ?_⟩
  obtain ⟨t1, t2, t3, r, t4, t5, t6, t7, t8, -⟩ := hT _ _ _ _ _ hf
  obtain ⟨r', b1, cell, q1, q2, q3, q4⟩ := (a3.2.1 q).1 ci hk t1
  cases t4.symm.trans b1
  obtain ⟨hS, hfc, kC, hkC, hkind⟩ := hK.1 ci _ t4
  obtain ⟨cf, kf, fi, f, hi, hsl⟩ := hS k t5
  have hst := (u_facts hfc hkC (u_lays t6 (fun w h => h) t5) hi).1
  rw [t7] at hi
  refine W.getf hx hb hown t8 hi hst q1 (by rw [q3]; exact fun h => by cases h) (v := .int (mI M key q 0)) ?_ rfl rfl d (kk.2.2 H locs la a1 a2 a3 a4 a5 a6 a7)
  rw [hsl, q4 k t5]
  show some (me_v (me_fv G M ci k q)) = _
  unfold me_fv
  subst t2
  rw [if_neg (by rw [← t3]; exact ht)]
theorem so_getR (hx : p.tables.exec = Jvm.exec) (hb : c.code = xC X) (hown : s.vm.findClass own = some m.cls) (hK : va_K (gD G) (gC G) (gT G) s) (hT : me_TF G own args s False (xF X)) : me_rule el X v N (me_JW p l e R s m args below meth c Q G nL sz0 sl0 H0 N) 51 := by
  intro pc ls st M q idx ci k key d hf hk kk
  refine ⟨kk.1, kk.2.1, fun H locs la a1 a2 a3 a4 a5 a6 a7 => ?_⟩
  obtain ⟨t1, t2, t3, r, t4, t5, t6, t7, t8, -⟩ := hT _ _ _ _ _ hf
  obtain ⟨r', b1, cell, q1, q2, q3, q4⟩ := (a3.2.1 q).1 ci hk t1
  cases t4.symm.trans b1
  obtain ⟨hS, hfc, kC, hkC, hkind⟩ := hK.1 ci _ t4
  obtain ⟨cf, kf, fi, f, hi, hsl⟩ := hS k t5
  have hst := (u_facts hfc hkC (u_lays t6 (fun w h => h) t5) hi).1
  rw [t7] at hi
  refine W.getf hx hb hown t8 hi hst q1 (by rw [q3]; exact fun h => by cases h) (v := va_rf (mR M key q 0)) ?_ rfl rfl d (kk.2.2 H locs la a1 a2 a3 a4 a5 a6 a7)
  rw [hsl, q4 k t5]
  show some (me_v (me_fv G M ci k q)) = _
  unfold me_fv
  subst t2
  rw [if_pos t3.symm]
theorem so_putI (hx : p.tables.exec = Jvm.exec) (hb : c.code = xC X) (hown : s.vm.findClass own = some m.cls) (hK : va_K (gD G) (gC G) (gT G) s) (hCL : me_CL G) (hT : me_TF G own args s True (xG X)) (hT2 : ∀ idx ci k key ty r, xG X idx = some (ci, k, key, ty) → (gC G)[ci]? = some r → (r.2.1 k).2.2.2 = true → meth.name = "<init>") : me_rule el X v N (me_JW p l e R s m args below meth c Q G nL sz0 sl0 H0 N) 52 := by
  intro pc ls st M q idx ci k key x d hf hk kk
  refine ⟨kk.1, kk.2.1, fun H locs la a1 a2 a3 a4 a5 a6 a7 => ?_⟩
  obtain ⟨t1, t2, t3, r, t4, t5, t6, t7, t8, t9⟩ := hT _ _ _ _ _ hf
  obtain ⟨r', b1, cell, q1, q2, q3, q4⟩ := (a3.2.1 q).1 ci hk t1
  cases t4.symm.trans b1
  obtain ⟨hnm, tyf, hty, hty2⟩ := hCL ci r t4
  have hap := va_apart (own := own) (Ts := u_ws r.1 r.2.1 r.2.2) t6 (fun w h => h) tyf hty hnm hK t4
  obtain ⟨hS, hfc, kC, hkC, hkind⟩ := hK.1 ci _ t4
  obtain ⟨cf, kf, fi, f, hi, hsl⟩ := hS k t5
  have hlay := t6 _ (u_in_lay t5)
  have hst := (u_facts hfc hkC (u_lays t6 (fun w h => h) t5) hi).1
  have hnar : narrow (tyf k) (.int x) = .int x ∧ fits (tyf k) (.int x) = true := by
    rcases hty2 k t5 with ⟨h1, h2⟩ | ⟨h1, h2⟩ | ⟨h1, h2⟩
    · rw [h2]; exact ⟨rfl, rfl⟩
    · omega
    · omega
  have fin : ∀ (H1 : Heap) (i0 : Nat), i0 = (gD G).2 ci k → H1[q]? = some (cell.setSlot i0 (.int x)) → H1.size = H.size → (∀ q', q' ≠ q → H1[q']? = H[q']?) → W p l e R s m args below meth c H1 (locs ++ [⟨q, i0⟩]) (mSz M - sz0) (mSl M - sl0) Q (F0 m (pc + 3) la (st.map me_v)) := by
    intro H1 i0 e0 e1 e2 e3
    subst e0
    refine kk.2.2 H1 _ la a1 a2 (a3.write q (by omega) rfl rfl rfl ?_ ?_ e2 e3 ?_) (fun q' hq' => ?_) ?_ a6 a7
    · intro k' q' i' hne; simp [mSetI, mSetR, mI, hne]
    · intro k' q' i' hne; simp [mSetI, mSetR, mR, hne]
    · refine ⟨fun ci' hk' _ => ?_, fun hk' => ?_⟩
      · have hcc : ci' = ci := by
          have h0 : mKd M q = ci' + 1 := hk'
          omega
        subst hcc
        refine ⟨r, t4, t_OB.to (V := updV (fun k => me_v (me_fv G M ci' k q)) k (.int x)) ⟨_, e1, q2, q3, t_set q4 hap t5 _⟩ (fun j hj => ?_)⟩
        subst t2
        by_cases hjk : j = k
        · subst hjk
          simp [updV, me_fv, mSetI, mSetR, mI, mR, ← t3]
        · simp [updV, me_fv, mSetI, mSetR, mI, mR, hjk]
      · have h0 : 100 ≤ mKd M q := hk'
        omega
    · have := a3.2.2.2.1 q (by omega)
      rw [e3 q' (Nat.ne_of_lt (Nat.lt_of_lt_of_le hq' this))]
      exact a4 q' hq'
    · intro q' hq'
      rcases List.mem_append.mp hq' with h | h
      · exact a5 q' h
      · rw [List.mem_singleton.mp h]
        exact a3.2.2.2.1 q (by omega)
  unfold u_lay at hlay
  by_cases hfin : (r.2.1 k).2.2.2 = true
  · rw [if_pos hfin] at hlay
    have hcf : m.cls = cf := by
      obtain ⟨_, _, c', _, _, _, -, -, hf', -, -, -, hown2, -⟩ := Cond.laysFinal_spec hlay
      have z1 : c' = cf := by have := hi.symm.trans hf'; simp at this; exact this.1.symm
      rw [t7, t9 hfin trivial] at hown2
      rw [← z1]; exact Option.some.inj (hown.symm.trans hown2)
    have h6 := u_fits hfc hkC hkind (Or.inr hlay) hi (hty k t5) hnar.1 hnar.2
    rw [t7] at hi
    exact W.putFinK hx hb hown t8 hi hst hcf (hT2 _ _ _ _ _ _ hf t4 hfin) (by rw [q2]; exact h6) q1 q3 (by rw [hsl]; exact k2_hasslot (q4 k t5)) rfl rfl d fun H1 e1 e2 e3 => fin H1 _ hsl e1 e2 e3
  · rw [if_neg hfin] at hlay
    have h6 := u_store hfc hkC hkind hlay hi (hty k t5) hnar.1 hnar.2
    rw [t7] at hi
    exact W.putK hx hb (f := f) ⟨hown, t8, ⟨_, _, _, hi⟩, hst⟩ (by rw [q2]; exact h6) q1 q3 (by rw [hsl]; exact k2_hasslot (q4 k t5)) rfl rfl d fun H1 e1 e2 e3 => fin H1 _ hsl e1 e2 e3
theorem so_putZ (hx : p.tables.exec = Jvm.exec) (hb : c.code = xC X) (hown : s.vm.findClass own = some m.cls) (hK : va_K (gD G) (gC G) (gT G) s) (hCL : me_CL G) (hT : me_TF G own args s True (xG X)) (hT2 : ∀ idx ci k key ty r, xG X idx = some (ci, k, key, ty) → (gC G)[ci]? = some r → (r.2.1 k).2.2.2 = true → meth.name = "<init>") : me_rule el X v N (me_JW p l e R s m args below meth c Q G nL sz0 sl0 H0 N) 53 := by
  intro pc ls st M q idx ci k key x d hf hk hz kk
  refine ⟨kk.1, kk.2.1, fun H locs la a1 a2 a3 a4 a5 a6 a7 => ?_⟩
  obtain ⟨t1, t2, t3, r, t4, t5, t6, t7, t8, t9⟩ := hT _ _ _ _ _ hf
  obtain ⟨r', b1, cell, q1, q2, q3, q4⟩ := (a3.2.1 q).1 ci hk t1
  cases t4.symm.trans b1
  obtain ⟨hnm, tyf, hty, hty2⟩ := hCL ci r t4
  have hap := va_apart (own := own) (Ts := u_ws r.1 r.2.1 r.2.2) t6 (fun w h => h) tyf hty hnm hK t4
  obtain ⟨hS, hfc, kC, hkC, hkind⟩ := hK.1 ci _ t4
  obtain ⟨cf, kf, fi, f, hi, hsl⟩ := hS k t5
  have hlay := t6 _ (u_in_lay t5)
  have hst := (u_facts hfc hkC (u_lays t6 (fun w h => h) t5) hi).1
  have hnar : narrow (tyf k) (.int x) = .int x ∧ fits (tyf k) (.int x) = true := by
    rcases hty2 k t5 with ⟨h1, h2⟩ | ⟨h1, h2⟩ | ⟨h1, h2⟩
    · omega
    · rw [h2]; rcases hz with rfl | rfl <;> exact ⟨rfl, rfl⟩
    · omega
  have fin : ∀ (H1 : Heap) (i0 : Nat), i0 = (gD G).2 ci k → H1[q]? = some (cell.setSlot i0 (.int x)) → H1.size = H.size → (∀ q', q' ≠ q → H1[q']? = H[q']?) → W p l e R s m args below meth c H1 (locs ++ [⟨q, i0⟩]) (mSz M - sz0) (mSl M - sl0) Q (F0 m (pc + 3) la (st.map me_v)) := by
    intro H1 i0 e0 e1 e2 e3
    subst e0
    refine kk.2.2 H1 _ la a1 a2 (a3.write q (by omega) rfl rfl rfl ?_ ?_ e2 e3 ?_) (fun q' hq' => ?_) ?_ a6 a7
    · intro k' q' i' hne; simp [mSetI, mSetR, mI, hne]
    · intro k' q' i' hne; simp [mSetI, mSetR, mR, hne]
    · refine ⟨fun ci' hk' _ => ?_, fun hk' => ?_⟩
      · have hcc : ci' = ci := by
          have h0 : mKd M q = ci' + 1 := hk'
          omega
        subst hcc
        refine ⟨r, t4, t_OB.to (V := updV (fun k => me_v (me_fv G M ci' k q)) k (.int x)) ⟨_, e1, q2, q3, t_set q4 hap t5 _⟩ (fun j hj => ?_)⟩
        subst t2
        by_cases hjk : j = k
        · subst hjk
          simp [updV, me_fv, mSetI, mSetR, mI, mR, ← t3]
        · simp [updV, me_fv, mSetI, mSetR, mI, mR, hjk]
      · have h0 : 100 ≤ mKd M q := hk'
        omega
    · have := a3.2.2.2.1 q (by omega)
      rw [e3 q' (Nat.ne_of_lt (Nat.lt_of_lt_of_le hq' this))]
      exact a4 q' hq'
    · intro q' hq'
      rcases List.mem_append.mp hq' with h | h
      · exact a5 q' h
      · rw [List.mem_singleton.mp h]
        exact a3.2.2.2.1 q (by omega)
  unfold u_lay at hlay
  by_cases hfin : (r.2.1 k).2.2.2 = true
  · rw [if_pos hfin] at hlay
    have hcf : m.cls = cf := by
      obtain ⟨_, _, c', _, _, _, -, -, hf', -, -, -, hown2, -⟩ := Cond.laysFinal_spec hlay
      have z1 : c' = cf := by have := hi.symm.trans hf'; simp at this; exact this.1.symm
      rw [t7, t9 hfin trivial] at hown2
      rw [← z1]; exact Option.some.inj (hown.symm.trans hown2)
    have h6 := u_fits hfc hkC hkind (Or.inr hlay) hi (hty k t5) hnar.1 hnar.2
    rw [t7] at hi
    exact W.putFinK hx hb hown t8 hi hst hcf (hT2 _ _ _ _ _ _ hf t4 hfin) (by rw [q2]; exact h6) q1 q3 (by rw [hsl]; exact k2_hasslot (q4 k t5)) rfl rfl d fun H1 e1 e2 e3 => fin H1 _ hsl e1 e2 e3
  · rw [if_neg hfin] at hlay
    have h6 := u_store hfc hkC hkind hlay hi (hty k t5) hnar.1 hnar.2
    rw [t7] at hi
    exact W.putK hx hb (f := f) ⟨hown, t8, ⟨_, _, _, hi⟩, hst⟩ (by rw [q2]; exact h6) q1 q3 (by rw [hsl]; exact k2_hasslot (q4 k t5)) rfl rfl d fun H1 e1 e2 e3 => fin H1 _ hsl e1 e2 e3
theorem so_putR (hx : p.tables.exec = Jvm.exec) (hb : c.code = xC X) (hown : s.vm.findClass own = some m.cls) (hK : va_K (gD G) (gC G) (gT G) s) (hCL : me_CL G) (hT : me_TF G own args s True (xG X)) (hT2 : ∀ idx ci k key ty r, xG X idx = some (ci, k, key, ty) → (gC G)[ci]? = some r → (r.2.1 k).2.2.2 = true → meth.name = "<init>") : me_rule el X v N (me_JW p l e R s m args below meth c Q G nL sz0 sl0 H0 N) 54 := by
  intro pc ls st M q idx ci k key x d hf hk kk
  refine ⟨kk.1, kk.2.1, fun H locs la a1 a2 a3 a4 a5 a6 a7 => ?_⟩
  obtain ⟨t1, t2, t3, r, t4, t5, t6, t7, t8, t9⟩ := hT _ _ _ _ _ hf
  obtain ⟨r', b1, cell, q1, q2, q3, q4⟩ := (a3.2.1 q).1 ci hk t1
  cases t4.symm.trans b1
  obtain ⟨hnm, tyf, hty, hty2⟩ := hCL ci r t4
  have hap := va_apart (own := own) (Ts := u_ws r.1 r.2.1 r.2.2) t6 (fun w h => h) tyf hty hnm hK t4
  obtain ⟨hS, hfc, kC, hkC, hkind⟩ := hK.1 ci _ t4
  obtain ⟨cf, kf, fi, f, hi, hsl⟩ := hS k t5
  have hlay := t6 _ (u_in_lay t5)
  have hst := (u_facts hfc hkC (u_lays t6 (fun w h => h) t5) hi).1
  have hnar : narrow (tyf k) (va_rf x) = va_rf x ∧ fits (tyf k) (va_rf x) = true := by
    rcases hty2 k t5 with ⟨h1, h2⟩ | ⟨h1, h2⟩ | ⟨h1, h2⟩
    · omega
    · omega
    · rcases h2 with ⟨a, h2⟩ | ⟨a, h2⟩ <;> rw [h2] <;> cases x <;> exact ⟨rfl, rfl⟩
  have fin : ∀ (H1 : Heap) (i0 : Nat), i0 = (gD G).2 ci k → H1[q]? = some (cell.setSlot i0 (va_rf x)) → H1.size = H.size → (∀ q', q' ≠ q → H1[q']? = H[q']?) → W p l e R s m args below meth c H1 (locs ++ [⟨q, i0⟩]) (mSz M - sz0) (mSl M - sl0) Q (F0 m (pc + 3) la (st.map me_v)) := by
    intro H1 i0 e0 e1 e2 e3
    subst e0
    refine kk.2.2 H1 _ la a1 a2 (a3.write q (by omega) rfl rfl rfl ?_ ?_ e2 e3 ?_) (fun q' hq' => ?_) ?_ a6 a7
    · intro k' q' i' hne; simp [mSetI, mSetR, mI, hne]
    · intro k' q' i' hne; simp [mSetI, mSetR, mR, hne]
    · refine ⟨fun ci' hk' _ => ?_, fun hk' => ?_⟩
      · have hcc : ci' = ci := by
          have h0 : mKd M q = ci' + 1 := hk'
          omega
        subst hcc
        refine ⟨r, t4, t_OB.to (V := updV (fun k => me_v (me_fv G M ci' k q)) k (va_rf x)) ⟨_, e1, q2, q3, t_set q4 hap t5 _⟩ (fun j hj => ?_)⟩
        subst t2
        by_cases hjk : j = k
        · subst hjk
          simp [updV, me_fv, mSetI, mSetR, mI, mR, ← t3]
        · simp [updV, me_fv, mSetI, mSetR, mI, mR, hjk]
      · have h0 : 100 ≤ mKd M q := hk'
        omega
    · have := a3.2.2.2.1 q (by omega)
      rw [e3 q' (Nat.ne_of_lt (Nat.lt_of_lt_of_le hq' this))]
      exact a4 q' hq'
    · intro q' hq'
      rcases List.mem_append.mp hq' with h | h
      · exact a5 q' h
      · rw [List.mem_singleton.mp h]
        exact a3.2.2.2.1 q (by omega)
  unfold u_lay at hlay
  by_cases hfin : (r.2.1 k).2.2.2 = true
  · rw [if_pos hfin] at hlay
    have hcf : m.cls = cf := by
      obtain ⟨_, _, c', _, _, _, -, -, hf', -, -, -, hown2, -⟩ := Cond.laysFinal_spec hlay
      have z1 : c' = cf := by have := hi.symm.trans hf'; simp at this; exact this.1.symm
      rw [t7, t9 hfin trivial] at hown2
      rw [← z1]; exact Option.some.inj (hown.symm.trans hown2)
    have h6 := u_fits hfc hkC hkind (Or.inr hlay) hi (hty k t5) hnar.1 hnar.2
    rw [t7] at hi
    exact W.putFinK hx hb hown t8 hi hst hcf (hT2 _ _ _ _ _ _ hf t4 hfin) (by rw [q2]; exact h6) q1 q3 (by rw [hsl]; exact k2_hasslot (q4 k t5)) rfl rfl d fun H1 e1 e2 e3 => fin H1 _ hsl e1 e2 e3
  · rw [if_neg hfin] at hlay
    have h6 := u_store hfc hkC hkind hlay hi (hty k t5) hnar.1 hnar.2
    rw [t7] at hi
    exact W.putK hx hb (f := f) ⟨hown, t8, ⟨_, _, _, hi⟩, hst⟩ (by rw [q2]; exact h6) q1 q3 (by rw [hsl]; exact k2_hasslot (q4 k t5)) rfl rfl d fun H1 e1 e2 e3 => fin H1 _ hsl e1 e2 e3
theorem me_dflt {t : FieldType} {n : Nat} (h : me_ty t n) : defaultValue t = if n = 2 then .null else .int 0 := by
  rcases h with ⟨rfl, rfl⟩ | ⟨rfl, rfl⟩ | ⟨rfl, ⟨a, rfl⟩ | ⟨a, rfl⟩⟩ <;> rfl
def me_TN (G : me_G) (own : String) (args : Array Value) (s : State) (tab : Nat → Option (Nat × Nat)) : Prop := ∀ idx ci n, tab idx = some (ci, n) → ci < 99 ∧ ∃ r : vw_C, (gC G)[ci]? = some r ∧ r.2.2 = n ∧ (∀ w ∈ u_ws r.1 r.2.1 r.2.2, w.before args s = true) ∧
  (Cond.classLink own idx r.1).before args s = true ∧ (Cond.instantiable r.1 n).before args s = true ∧ (Cond.initialized r.1).before args s = true
theorem so_new (hx : p.tables.exec = Jvm.exec) (hb : c.code = xC X) (hown : s.vm.findClass own = some m.cls) (hK : va_K (gD G) (gC G) (gT G) s) (hCL : me_CL G) (hRc : mSz N - sz0 ≤ R.cells) (hRs : mSl N - sl0 ≤ R.slots) (hT : me_TN G own args s (xN X)) : me_rule el X v N (me_JW p l e R s m args below meth c Q G nL sz0 sl0 H0 N) 55 := by
  intro pc ls st M idx ci n d hf kk
  have k1 : mSz M + 1 ≤ mSz N := kk.1
  have k2 : mSl M + n ≤ mSl N := kk.2.1
  refine ⟨by omega, by omega, fun H locs la a1 a2 a3 a4 a5 a6 a7 => ?_⟩
  obtain ⟨t1, r, t4, t5, t6, t7, t8, t9⟩ := hT _ _ _ hf
  obtain ⟨hnm, tyf, hty, hty2⟩ := hCL ci r t4
  have hKn := hK.1 ci _ t4
  refine W.newcK hx hb hown t7 t8 t9 rfl d (by omega) (by omega) hKn.2.1 a3.1 fun H1 kC hkC e1 z1 o1 => ?_
  refine W.cs (cells' := mSz (mNew M (ci + 1) 0 n) - sz0) (slots' := mSl (mNew M (ci + 1) 0 n) - sl0) (by rw [mSz_New]; omega) (by rw [mSl_New]; omega) ?_
  refine kk.2.2 H1 locs la (by rw [mSz_New]; omega) (by rw [mSl_New]; omega) (a3.made (ci + 1) 0 n (by rw [z1, a3.1]) (fun q' h => o1 q' (by rw [← a3.1]; exact h)) ⟨fun ci' h' _ => ?_, fun h' => ?_⟩) (fun q' hq' => ?_) a5 a6 a7
  · have h0 : ci' = ci := by
      rw [mKd_New, if_pos rfl] at h'
      omega
    subst h0
    refine ⟨r, t4, (u_born tyf t6 (fun w h => h) hKn hkC e1 hty).to fun k hk => ?_⟩
    obtain ⟨-, hfr⟩ := a3.2.2.1 (mSz M) (Nat.le_refl _)
    rw [me_dflt (hty2 k hk)]
    unfold me_fv
    rw [mR_New, mI_New, (hfr _ 0).1, (hfr _ 0).2]
    split <;> rfl
  · rw [mKd_New, if_pos rfl] at h'
    omega
  · have := a3.2.2.2.2
    rw [o1 q' (by omega)]
    exact a4 q' hq'
/-- the array types: int, boolean, then references to objects of a class of the list -/
def me_AT (G : me_G) (el : Nat → Nat) : Prop := (∃ c0, (gT G)[0]? = some (c0, .int)) ∧ (∃ c1, (gT G)[1]? = some (c1, .boolean)) ∧ ∀ a t, 2 ≤ a → (gT G)[a]? = some t → ∃ (ci : Nat) (r : vw_C), ci < 99 ∧ el (100 + a) = ci + 1 ∧ (gC G)[ci]? = some r ∧ t.2 = .object r.1
end SND
