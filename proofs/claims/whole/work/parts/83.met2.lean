set_option maxHeartbeats 4000000 in
set_option maxRecDepth 100000 in
/-- the same, of a method that reads the script -/
theorem me_met2 {l : Launch} {y : MethodName} {ws ws' : List Cond} {cc : ByteArray} {maxL fr lo : Nat} {ret : Option FieldType} {G : me_G} {X : me_X} {el : Nat → Nat} {as : List me_V} {M N : me_M} {v : Option me_V} (hy : plainName y.cls = true) (hw : ws = Cond.code y cc maxL ret :: ws') (hcc : xC X = cc) (hret : me_ret X ret) (hlen : as.length ≤ maxL) {PS : State → Prop} (hS : ∀ U, PS U → ∀ b L xs, xS X = some (b, L, xs) → b < gB G ∧ va_X b L xs U U.heap) (hCL : me_CL G) (hAT : me_AT G el)
    (hle : mSz M ≤ mSz N ∧ mSl M ≤ mSl N)
    (hT : ∀ (args : Array Value) (s : State), (∀ w ∈ ws, w.before args s = true) → me_Nw G s → me_tabs G X y.cls { frames := fr, cells := mSz N - mSz M, slots := mSl N - mSl M, locals := lo } args s y.name)
    (hC : ∀ (p : Program) (e : Env) (s : State) (m : MethodId) (args : Array Value) (below : List Frame) (meth : Method) (c : Code) (Q : State → Prop), CallFix p m c cc maxL s args ws y.cls → va_K (gD G) (gC G) (gT G) s → me_Nw G s → ∀ pc as2 M2 r M1, xCall X pc as2 M2 r M1 → me_CR p l e { frames := fr, cells := mSz N - mSz M, slots := mSl N - mSl M, locals := lo } s m args below meth c Q G maxL pc as2 M2 r M1)
    (hrun : RUN el X 0 (as.map some ++ List.replicate (maxL - as.length) none) [] M v N) : Met l y ws { frames := fr, cells := mSz N - mSz M, slots := mSl N - mSl M, locals := lo } (fun a U => me_Pc G as M a U ∧ PS U) (me_Qc G v N) (mSz N - mSz M) (mSl N - mSl M) (fun q => gB G ≤ q) := by
  refine Met.ofW (cc := cc) (maxL := maxL) (ret := ret) hy hw ?_
  intro p e s m args below meth c s₁ B hml hv
  obtain ⟨⟨rfl, hH, hK, hNw⟩, hPs⟩ := hv
  have hx := B.exec
  have hb : c.code = xC X := by rw [hcc]; exact B.bytes
  have hr : me_ret X meth.sig.returnType := by rw [B.returns]; exact hret
  have hts := atoms_spec (ws := ws) B.pre
  have hown : s.vm.findClass y.cls = some m.cls := findClass_of_methodNamed B.named
  have hlocks := B.notSynchronized
  have hnm : meth.name = y.name := (name_of_methodNamed B.named B.method).1
  obtain ⟨T1, T2, T3, T4, T5, T6, T7, T8, T9⟩ := hT _ _ hts hNw
  rw [← hnm] at T3
  have hC2 := fun Q => hC p e s m _ below meth c Q ⟨hx, B.bytes, hml, hown, hts⟩ hK hNw
  have hS2 := hS _ hPs
  have hl := lv_entry (as.map me_v) (n := maxL) (by rw [me_sl]; exact hlen)
  rw [lg_entry_eq]
  generalize (lg_sl (as.map me_v) ++ List.replicate (maxL - (lg_sl (as.map me_v)).length) Slot.unset).toArray = la at hl ⊢
  have hl2 : lv_has la maxL (me_lv (as.map some ++ List.replicate (maxL - as.length) none)) := by
    refine ⟨hl.1, hl.2.1, fun q hq => ?_⟩
    obtain ⟨j, w⟩ := q
    obtain ⟨x, hx1, rfl⟩ := me_lv_mem.mp hq
    refine hl.2.2 _ ?_
    by_cases hj : j < as.length
    · rw [List.getElem?_append_left (by rw [List.length_map]; exact hj), List.getElem?_map] at hx1
      cases hz : as[j]? with
      | none => rw [hz] at hx1; cases hx1
      | some z =>
        rw [hz] at hx1
        cases hx1
        have := me_args as 0 hz
        rwa [Nat.zero_add] at this
    · rw [List.getElem?_append_right (by rw [List.length_map]; omega), List.getElem?_replicate] at hx1
      split at hx1 <;> cases hx1
  have key := hrun (me_JW p l e { frames := fr, cells := mSz N - mSz M, slots := mSl N - mSl M, locals := lo } s m (as.map me_v).toArray below meth c (MQ below (me_Qc G v N) (as.map me_v).toArray s (mSz N - mSz M) (mSl N - mSl M) (fun q => gB G ≤ q)) G maxL (mSz M) (mSl M) s.heap N) (fun i => ?_)
  · have h := key.2.2 s.heap [] la (Nat.le_refl _) (Nat.le_refl _) hH (fun _ _ => rfl) (fun _ h => by cases h) hl2 (by simp; omega)
    rw [Nat.sub_self, Nat.sub_self] at h
    exact h
  · have hRc : mSz N - mSz M ≤ ({ frames := fr, cells := mSz N - mSz M, slots := mSl N - mSl M, locals := lo } : Room).cells := Nat.le_refl _
    have hRs : mSl N - mSl M ≤ ({ frames := fr, cells := mSz N - mSz M, slots := mSl N - mSl M, locals := lo } : Room).slots := Nat.le_refl _
    match i with
    | 0 => exact so_iconst hx hb 
    | 1 => exact so_bipush hx hb 
    | 2 => exact so_sipush hx hb 
    | 3 => exact so_ldc hx hb hown T8
    | 4 => exact so_null hx hb 
    | 5 => exact so_iload_n hx hb 
    | 6 => exact so_iload hx hb 
    | 7 => exact so_aload_n hx hb 
    | 8 => exact so_aload hx hb 
    | 9 => exact so_istore_n hx hb 
    | 10 => exact so_istore hx hb 
    | 11 => exact so_astore_n hx hb 
    | 12 => exact so_astore hx hb 
    | 13 => exact so_iinc hx hb 
    | 14 => exact so_iadd hx hb 
    | 15 => exact so_isub hx hb 
    | 16 => exact so_imul hx hb 
    | 17 => exact so_iand hx hb 
    | 18 => exact so_ior hx hb 
    | 19 => exact so_ixor hx hb 
    | 20 => exact so_ishl hx hb 
    | 21 => exact so_ishr hx hb 
    | 22 => exact so_idiv hx hb 
    | 23 => exact so_irem hx hb 
    | 24 => exact so_ineg hx hb 
    | 25 => exact so_dup hx hb 
    | 26 => exact so_pop hx hb 
    | 27 => exact so_dup_x1 hx hb 
    | 28 => exact so_dup_x2 hx hb 
    | 29 => exact so_dup2 hx hb 
    | 30 => exact so_if_eq hx hb 
    | 31 => exact so_if_ne hx hb 
    | 32 => exact so_if_lt hx hb 
    | 33 => exact so_if_ge hx hb 
    | 34 => exact so_if_gt hx hb 
    | 35 => exact so_if_le hx hb 
    | 36 => exact so_icmp_eq hx hb 
    | 37 => exact so_icmp_ne hx hb 
    | 38 => exact so_icmp_lt hx hb 
    | 39 => exact so_icmp_ge hx hb 
    | 40 => exact so_icmp_gt hx hb 
    | 41 => exact so_icmp_le hx hb 
    | 42 => exact so_acmp_eq hx hb 
    | 43 => exact so_acmp_ne hx hb 
    | 44 => exact so_ifnull hx hb 
    | 45 => exact so_ifnonnull hx hb 
    | 46 => exact so_goto hx hb 
    | 47 => exact so_tabIn hx hb 
    | 48 => exact so_tabOut hx hb 
    | 49 => exact so_lookup hx hb 
    | 50 => exact so_getI hx hb hown hK T1
    | 51 => exact so_getR hx hb hown hK T1
    | 52 => exact so_putI hx hb hown hK hCL T2 T3
    | 53 => exact so_putZ hx hb hown hK hCL T2 T3
    | 54 => exact so_putR hx hb hown hK hCL T2 T3
    | 55 => exact so_new hx hb hown hK hCL hRc hRs T4
    | 56 => exact so_newI hx hb hK hAT hRc hRs T6
    | 57 => exact so_newZ hx hb hK hAT hRc hRs T7
    | 58 => exact so_newR hx hb hown hK hRc hRs T5
    | 59 => exact so_alen hx hb hK
    | 60 => exact so_iald hx hb hK hAT
    | 61 => exact so_iast hx hb hK hAT
    | 62 => exact so_zald hx hb hK hAT
    | 63 => exact so_zast hx hb hK hAT
    | 64 => exact so_aald hx hb hK hAT
    | 65 => exact so_aast hx hb hK hAT
    | 66 => exact so_aastN hx hb hK hAT
    | 67 => exact so_call hRc hRs (hC2 _)
    | 68 => exact so_obj hx hb hml hown T9
    | 69 => exact so_drop hx hb 
    | 70 => exact so_sald hx hb hS2
    | 71 => exact so_slen hx hb hS2
    | 72 => exact so_ret_i hx hb hlocks hr
    | 73 => exact so_ret_z hx hb hlocks hr
    | 74 => exact so_ret_a hx hb hlocks hr
    | 75 => exact so_ret_v hx hb hlocks hr
    | (k + 76) => exact trivial
