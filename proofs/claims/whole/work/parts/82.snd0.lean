/-! every method's words: the good ones of the tables -/
def LW : List Cond := lw_tbl.filter goodWord
theorem LW_in {w : Cond} (h : w ∈ LW) : w ∈ lw_tbl ∧ ((w.onTables && w.keeps) = true ∨ ∃ ty, w = .arrayClass ty) := by
  obtain ⟨h1, h2⟩ := List.mem_filter.mp h
  exact ⟨h1, good_of_word h2⟩
theorem mT (i : Nat) {w : Cond} (h : tables_1[i]? = some w) (hg : goodWord w = true) : w ∈ LW := List.mem_filter.mpr ⟨List.mem_append_right _ (List.mem_of_getElem? h), hg⟩
theorem mS (i : Nat) {w : Cond} (h : (k2_sels lw_privs)[i]? = some w) (hg : goodWord w = true) : w ∈ LW := List.mem_filter.mpr ⟨List.mem_append_left _ (List.mem_of_getElem? h), hg⟩
theorem gI {big : List Cond} (hb : ∀ w ∈ LW, w ∈ big) {k : Cond} (hk : k ∈ LW) : GoodIn big (k :: LW) := by
  intro w hw
  rcases List.mem_cons.mp hw with h | h
  · rw [h]; exact ⟨hb _ hk, (LW_in hk).2⟩
  · exact ⟨hb _ h, (LW_in h).2⟩
theorem gV {big : List Cond} (hb : ∀ w ∈ LW, w ∈ big) {own C : String} {idx : Nat} {y : MethodName} {k : Cond} (hk : k ∈ LW) (h1 : Cond.methodLink own idx y ∈ LW) (h2 : Cond.instanceMethod y ∈ LW) (h3 : Cond.selects C y y ∈ LW) (h4 : Cond.initialized C ∈ LW) : GoodIn big (wsV own idx C y (k :: LW)) := by
  intro w hw
  unfold wsV at hw
  rcases List.mem_append.mp hw with h | h
  · simp only [List.mem_cons, List.not_mem_nil, or_false] at h
    rcases h with h | h | h | h
    · rw [h]; exact ⟨hb _ h1, (LW_in h1).2⟩
    · rw [h]; exact ⟨hb _ h2, (LW_in h2).2⟩
    · rw [h]; exact ⟨hb _ h3, (LW_in h3).2⟩
    · rw [h]; exact ⟨hb _ h4, (LW_in h4).2⟩
  · exact gI hb hk w h
theorem gT2 {big : List Cond} (hb : ∀ w ∈ LW, w ∈ big) {own : String} {idx : Nat} {y : MethodName} {k : Cond} (hk : k ∈ LW) (h1 : Cond.methodLink own idx y ∈ LW) (h2 : Cond.static y ∈ LW) (h3 : Cond.initialized y.cls ∈ LW) : GoodIn big (va_wsS own idx y (k :: LW)) := by
  intro w hw
  unfold va_wsS at hw
  rcases List.mem_append.mp hw with h | h
  · simp only [List.mem_cons, List.not_mem_nil, or_false] at h
    rcases h with h | h | h
    · rw [h]; exact ⟨hb _ h1, (LW_in h1).2⟩
    · rw [h]; exact ⟨hb _ h2, (LW_in h2).2⟩
    · rw [h]; exact ⟨hb _ h3, (LW_in h3).2⟩
  · exact gI hb hk w h
theorem cI {k : Cond} : ∀ w ∈ LW, w ∈ k :: LW := fun _ h => List.mem_cons_of_mem _ h
section SN0
variable {p : Program} {l : Launch} {e : Env} {R : Room} {s : State} {m : MethodId} {args : Array Value} {below : List Frame} {meth : Method} {c : Code} {Q : State → Prop} {G : me_G}
theorem tf_nil {own : String} {fi : Prop} : me_TF G own args s fi (fun _ => none) := fun _ _ _ _ _ h => by cases h
theorem tn_nil {own : String} : me_TN G own args s (fun _ => none) := fun _ _ _ h => by cases h
theorem ta_nil {own : String} : me_TA G own args s (fun _ => none) := fun _ _ h => by cases h
theorem tf {own : String} {idx ci k key ty : Nat} {fi : Prop} {r : vw_C} (hts : ∀ w ∈ LW, w.before args s = true) (hr : (gC G)[ci]? = some r) (hk : k < r.2.2) (hci : ci < 99) (hkey : key = 1000 + 64 * ci + k) (hty : ty = gF G ci k) (hw : ∀ w ∈ u_ws r.1 r.2.1 r.2.2, w ∈ LW) (h1 : (r.2.1 k).1 = r.1) (hl : Cond.fieldLink own idx r.1 (r.2.1 k).2.1 (r.2.1 k).2.2.1 ∈ LW) (hf : (r.2.1 k).2.2.2 = true → fi → r.1 = own) :
    ci < 99 ∧ key = 1000 + 64 * ci + k ∧ ty = gF G ci k ∧ ∃ r : vw_C, (gC G)[ci]? = some r ∧ k < r.2.2 ∧ (∀ w ∈ u_ws r.1 r.2.1 r.2.2, w.before args s = true) ∧ (r.2.1 k).1 = r.1 ∧ (Cond.fieldLink own idx r.1 (r.2.1 k).2.1 (r.2.1 k).2.2.1).before args s = true ∧ ((r.2.1 k).2.2.2 = true → fi → r.1 = own) :=
  ⟨hci, hkey, hty, r, hr, hk, fun w h => hts w (hw w h), h1, hts _ hl, hf⟩
theorem tn {own : String} {idx ci n : Nat} {r : vw_C} (hts : ∀ w ∈ LW, w.before args s = true) (hr : (gC G)[ci]? = some r) (hci : ci < 99) (hn : r.2.2 = n) (hw : ∀ w ∈ u_ws r.1 r.2.1 r.2.2, w ∈ LW) (h1 : Cond.classLink own idx r.1 ∈ LW) (h2 : Cond.instantiable r.1 n ∈ LW) (h3 : Cond.initialized r.1 ∈ LW) :
    ci < 99 ∧ ∃ r : vw_C, (gC G)[ci]? = some r ∧ r.2.2 = n ∧ (∀ w ∈ u_ws r.1 r.2.1 r.2.2, w.before args s = true) ∧ (Cond.classLink own idx r.1).before args s = true ∧ (Cond.instantiable r.1 n).before args s = true ∧ (Cond.initialized r.1).before args s = true :=
  ⟨hci, r, hr, hn, fun w h => hts w (hw w h), hts _ h1, hts _ h2, hts _ h3⟩
theorem ta {own C : String} {idx a : Nat} {cA : ClassId} (hts : ∀ w ∈ LW, w.before args s = true) (hN : me_Nw G s) (ha : 102 ≤ a) (hr : (gT G)[a - 100]? = some (cA, .object C)) (h1 : Cond.classLink own idx C ∈ LW) (h2 : Cond.arrayOver (.object C) ∈ gW G) :
    102 ≤ a ∧ ∃ (C : String) (cA : ClassId), (gT G)[a - 100]? = some (cA, .object C) ∧ (Cond.classLink own idx C).before args s = true ∧ (Cond.arrayOver (.object C)).before args s = true :=
  ⟨ha, C, cA, hr, hts _ h1, hN _ h2⟩
/-- Math.max -/
theorem me_crMax {cc : ByteArray} {nL : Nat} {Ts : List Cond} {own : String} {index pc : Nat} {as : List me_V} {M M1 : me_M} {r : Option me_V} (S : CallFix p m c cc nL s args Ts own) (hT : ∀ w ∈ LW, w ∈ Ts) (h1 : Cond.methodLink own index Lib.Math.max.name ∈ LW) (h2 : Cond.static Lib.Math.max.name ∈ LW) (h3 : Cond.initialized "java/lang/Math" ∈ LW) (h4 : Cond.code Lib.Math.max.name Lib.Math.max.code 2 (some .int) ∈ LW) (hf : 1 ≤ R.frames) (hl : 21 ≤ R.locals) (hd : decode cc pc = .ok (.invokestatic index, 3)) (h : me_cMax as M r M1) : me_CR p l e R s m args below meth c Q G nL pc as M r M1 := by
  obtain ⟨x, y, rfl, rfl, rfl⟩ := h
  refine ⟨Nat.le_refl _, Nat.le_refl _, fun H locs la rest cells slots hH hsz hrl hc1 hc2 kk => ?_⟩
  have k2 := kk H [] hH (fun _ _ => rfl) (fun _ h => by cases h)
  rw [List.append_nil, Nat.sub_self, Nat.sub_self, Nat.add_zero, Nat.add_zero] at k2
  have ht := fun w hw => S.2.2.2.2 w (hT w hw)
  refine va_mmax (x := x) (y := y) (rest := rest.map me_v) S.1 S.2.1 (by rw [S.2.2.1, hsz]) S.2.2.2.1 (ht _ h1) (ht _ h2) (ht _ h3) (ht _ h4) hf (by rw [me_sum]; omega) (by omega) (by omega) hd ?_
  exact k2
end SN0
