def M00 (z : Nat) : me_M := (fun _ => 0, fun _ => 0, fun _ _ _ => 0, fun _ _ _ => none, z, 0)
theorem wf_00 (z : Nat) : wf (M00 z) := fun _ _ => ⟨rfl, fun _ _ => ⟨rfl, rfl⟩⟩
theorem H_00 {Dd : va_G} {cA : Nat → ClassId} {H : Heap} : me_H (mG H.size Dd cA) (M00 H.size) H := ⟨rfl, fun q => ⟨fun ci h => absurd h (by show ¬ 0 = ci + 1; omega), fun h => absurd h (by show ¬ 100 ≤ 0; omega)⟩, fun q _ => ⟨rfl, fun _ _ => ⟨rfl, rfl⟩⟩, fun q h => absurd rfl h, Nat.le_refl _⟩
theorem me_ent {as : List me_V} {maxL : Nat} {la : Array Slot} (hl : lv_has la maxL (lv_args 0 (as.map me_v))) : lv_has la maxL (me_lv (as.map some ++ List.replicate (maxL - as.length) none)) := by
  refine ⟨hl.1, hl.2.1, fun q hq => ?_⟩
  obtain ⟨j, w⟩ := q
  obtain ⟨x, hx1, rfl⟩ := me_lv_mem.mp hq
  refine hl.2.2 _ ?_
  by_cases hj : j < as.length
  · rw [List.getElem?_append_left (by rw [List.length_map]; exact hj), List.getElem?_map] at hx1
    cases hz : as[j]? with
    | none => rw [hz] at hx1; cases hx1
    | some z =>
      rw [hz] at hx1
      cases hx1
      have := me_args as 0 hz
      rwa [Nat.zero_add] at this
  · rw [List.getElem?_append_right (by rw [List.length_map]; omega), List.getElem?_replicate] at hx1
    split at hx1 <;> cases hx1
set_option maxHeartbeats 4000000 in
set_option maxRecDepth 100000 in
theorem whole_start {p : Program} {e : Env} {s : State} {m : MethodId} {below : List Frame} {meth : Method} {c : Code} (l : Launch) {b L : Nat} {xs : Nat → Int32} (hL : L ≤ 2561) (C0 : lw_At p s m meth c b L xs) : W p l e room_1 s m #[Value.ref b] below meth c s.heap [] 0 0 (lw_Z below #[Value.ref b] s) (entryFrame m ([Value.ref b] : List Value).toArray 4) := by
  obtain ⟨hx, hb, hr, hml, hown, hts, hX, hbl, hlocks, hgv⟩ := C0
  obtain ⟨Dd, cA, hK⟩ := kn_G hts
  have hK := hK s.heap.size
  have hNw : me_Nw (mG s.heap.size Dd cA) s := nw_G hts
  have hLW : ∀ w ∈ LW, w.before #[Value.ref b] s = true := fun w hw => hts w (LW_in hw).1
  obtain ⟨v, N, hrun, rfl, hsz, hsl⟩ := law_all (bS := b) (xs := xs) (M := M00 s.heap.size) hL (wf_00 _)
  have hRc : mSz N - s.heap.size ≤ room_1.cells := by
    have : mSz N ≤ s.heap.size + 16000 := hsz
    show _ ≤ 600000
    omega
  have hRs : mSl N - 0 ≤ room_1.slots := by
    have : mSl N ≤ 0 + 200000 := hsl
    show _ ≤ 7302250
    omega
  have hCL := mG_CL (B := s.heap.size) (Dd := Dd) (cA := cA)
  have hAT := mG_AT (B := s.heap.size) (Dd := Dd) (cA := cA)
  have key := hrun (me_JW p l e room_1 s m #[Value.ref b] below meth c (lw_Z below #[Value.ref b] s) (mG s.heap.size Dd cA) 4 s.heap.size 0 s.heap N) (fun i => ?_)
  · have hl := lv_entry (([.inr (some b)] : List me_V).map me_v) (n := 4) (by rw [me_sl]; show 1 ≤ 4; omega)
    show W p l e room_1 s m #[Value.ref b] below meth c s.heap [] 0 0 (lw_Z below #[Value.ref b] s) (entryFrame m (([.inr (some b)] : List me_V).map me_v).toArray 4)
    rw [lg_entry_eq]
    generalize (lg_sl (([.inr (some b)] : List me_V).map me_v) ++ List.replicate (4 - (lg_sl (([.inr (some b)] : List me_V).map me_v)).length) Slot.unset).toArray = la at hl ⊢
    have h := key.2.2 s.heap [] la (Nat.le_refl _) (Nat.le_refl _) H_00 (fun _ _ => rfl) (fun _ h => by cases h) (me_ent hl) rfl
    rw [show mSz (M00 s.heap.size) - s.heap.size = 0 from Nat.sub_self _, show mSl (M00 s.heap.size) - 0 = 0 from rfl] at h
    exact h
  · have hS2 : ∀ b' L' xs', xS (X_Law_law b L xs) = some (b', L', xs') → b' < gB (mG s.heap.size Dd cA) ∧ va_X b' L' xs' s s.heap := fun b' L' xs' h => by cases h; exact ⟨hbl, hX⟩
    have T1 : me_TF (mG s.heap.size Dd cA) R_law #[Value.ref b] s False (xF (X_Law_law b L xs)) := tf_nil
    have T2 : me_TF (mG s.heap.size Dd cA) R_law #[Value.ref b] s True (xG (X_Law_law b L xs)) := tf_nil
    have T3 : ∀ idx ci k key ty r, xG (X_Law_law b L xs) idx = some (ci, k, key, ty) → (gC (mG s.heap.size Dd cA))[ci]? = some r → (r.2.1 k).2.2.2 = true → meth.name = "<init>" := fun _ _ _ _ _ _ (h : none = some _) => by cases h
    have T4 : me_TN (mG s.heap.size Dd cA) R_law #[Value.ref b] s (xN (X_Law_law b L xs)) := law_TN rfl hLW
    have T5 : me_TA (mG s.heap.size Dd cA) R_law #[Value.ref b] s (xA (X_Law_law b L xs)) := ta_nil
    have T6 : xA (X_Law_law b L xs) 70000 = some 100 → (Cond.arrayClass .int).before #[Value.ref b] s = true := fun (h : none = some _) => by cases h
    have T7 : xA (X_Law_law b L xs) 70001 = some 101 → (Cond.arrayClass .boolean).before #[Value.ref b] s = true := fun (h : none = some _) => by cases h
    have T8 : ∀ n w, xK (X_Law_law b L xs) n = some w → (Jvm.Cond.constant R_law n w).before #[Value.ref b] s = true := fun _ _ (h : none = some _) => by cases h
    have T9 : ¬ xO (X_Law_law b L xs) = 0 → (Cond.methodLink R_law (xO (X_Law_law b L xs)) objectInit).before #[Value.ref b] s = true ∧ (Cond.instanceMethod objectInit).before #[Value.ref b] s = true ∧ (Cond.code objectInit ⟨#[0xb1]⟩ 1 none).before #[Value.ref b] s = true ∧ 1 ≤ room_1.frames ∧ 20 ≤ room_1.locals := fun h => absurd rfl h
    match i with
    | 0 => exact so_iconst hx hb 
    | 1 => exact so_bipush hx hb 
    | 2 => exact so_sipush hx hb 
    | 3 => exact so_ldc hx hb hown T8
    | 4 => exact so_null hx hb 
    | 5 => exact so_iload_n hx hb 
    | 6 => exact so_iload hx hb 
    | 7 => exact so_aload_n hx hb 
    | 8 => exact so_aload hx hb 
    | 9 => exact so_istore_n hx hb 
    | 10 => exact so_istore hx hb 
    | 11 => exact so_astore_n hx hb 
    | 12 => exact so_astore hx hb 
    | 13 => exact so_iinc hx hb 
    | 14 => exact so_iadd hx hb 
    | 15 => exact so_isub hx hb 
    | 16 => exact so_imul hx hb 
    | 17 => exact so_iand hx hb 
    | 18 => exact so_ior hx hb 
    | 19 => exact so_ixor hx hb 
    | 20 => exact so_ishl hx hb 
    | 21 => exact so_ishr hx hb 
    | 22 => exact so_idiv hx hb 
    | 23 => exact so_irem hx hb 
    | 24 => exact so_ineg hx hb 
    | 25 => exact so_dup hx hb 
    | 26 => exact so_pop hx hb 
    | 27 => exact so_dup_x1 hx hb 
    | 28 => exact so_dup_x2 hx hb 
    | 29 => exact so_dup2 hx hb 
    | 30 => exact so_if_eq hx hb 
    | 31 => exact so_if_ne hx hb 
    | 32 => exact so_if_lt hx hb 
    | 33 => exact so_if_ge hx hb 
    | 34 => exact so_if_gt hx hb 
    | 35 => exact so_if_le hx hb 
    | 36 => exact so_icmp_eq hx hb 
    | 37 => exact so_icmp_ne hx hb 
    | 38 => exact so_icmp_lt hx hb 
    | 39 => exact so_icmp_ge hx hb 
    | 40 => exact so_icmp_gt hx hb 
    | 41 => exact so_icmp_le hx hb 
    | 42 => exact so_acmp_eq hx hb 
    | 43 => exact so_acmp_ne hx hb 
    | 44 => exact so_ifnull hx hb 
    | 45 => exact so_ifnonnull hx hb 
    | 46 => exact so_goto hx hb 
    | 47 => exact so_tabIn hx hb 
    | 48 => exact so_tabOut hx hb 
    | 49 => exact so_lookup hx hb 
    | 50 => exact so_getI hx hb hown hK T1
    | 51 => exact so_getR hx hb hown hK T1
    | 52 => exact so_putI hx hb hown hK hCL T2 T3
    | 53 => exact so_putZ hx hb hown hK hCL T2 T3
    | 54 => exact so_putR hx hb hown hK hCL T2 T3
    | 55 => exact so_new hx hb hown hK hCL hRc hRs T4
    | 56 => exact so_newI hx hb hK hAT hRc hRs T6
    | 57 => exact so_newZ hx hb hK hAT hRc hRs T7
    | 58 => exact so_newR hx hb hown hK hRc hRs T5
    | 59 => exact so_alen hx hb hK
    | 60 => exact so_iald hx hb hK hAT
    | 61 => exact so_iast hx hb hK hAT
    | 62 => exact so_zald hx hb hK hAT
    | 63 => exact so_zast hx hb hK hAT
    | 64 => exact so_aald hx hb hK hAT
    | 65 => exact so_aast hx hb hK hAT
    | 66 => exact so_aastN hx hb hK hAT
    | 67 => exact so_call2 hRc hRs (law_CR ⟨hx, hb, hml, hown, hts⟩ hK hNw hX hbl)
    | 68 => exact so_obj hx hb hml hown T9
    | 69 => exact so_drop hx hb 
    | 70 => exact so_sald hx hb hS2
    | 71 => exact so_slen hx hb hS2
    | 72 => exact fun pc ls x d h0 hv => absurd (show (2 : Nat) = 1 from h0) (by decide)
    | 73 =>
      intro pc ls x d h0 hz hv
      cases hv
      refine ⟨Nat.le_refl _, Nat.le_refl _, fun H locs la a1 a2 a3 a4 a5 a6 a7 => ?_⟩
      exact va_forget a5 (W.widen hRc hRs (lw_ret hx hb hr hlocks d))
    | 74 => exact fun pc ls x d h0 hv => absurd (show (2 : Nat) = 3 from h0) (by decide)
    | 75 => exact fun pc ls d h0 hv => absurd (show (2 : Nat) = 0 from h0) (by decide)
    | (k + 76) => exact trivial
