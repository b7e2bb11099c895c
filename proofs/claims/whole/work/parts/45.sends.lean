section SENDS
variable {c : Nat} {M N : me_M} {b n r i : Nat} {D E : me_D}
theorem mkMs_ok (w : wf M) {k s r i bb : Int32} {o p : Option Nat} {K : Nat → Int32} (h0 : K 0 = k) (h1 : K 1 = s) (h2 : K 2 = r) (h3 : K 3 = i) (h4 : ¬ k = 4 → bb = K 4) (h5 : (k = 0 ∨ k = 1 ∨ k = 2 ∨ k = 4) → OrdR M o (K 5) (K 6) (K 7) (K 8)) (h6 : k = 6 → ∃ q, p = some q ∧ RptOK M q (K 1) (K 9) (K 5) (K 6) (K 7) (K 8) (K 10)) : MsgOK (mkMs M k s r i bb o p) (mSz M) K := by
  refine ⟨kd_new (b := 0) (c := 7), ?_, ?_, ?_, ?_, fun hz => ?_, fun hz => ?_, fun hz => ?_⟩
  · simp [mkMs, mI_SetI, mI_SetR, h0]
  · simp [mkMs, mI_SetI, mI_SetR, h1]
  · simp [mkMs, mI_SetI, mI_SetR, h2]
  · simp [mkMs, mI_SetI, mI_SetR, h3]
  · rw [h0] at hz
    simp [mkMs, mI_SetI, mI_SetR, h4 hz]
  · rw [h0] at hz
    have e : mR (mkMs M k s r i bb o p) 1581 (mSz M) 0 = o := by simp [mkMs, mR_SetI, mR_SetR]
    rw [e]
    exact OrdR.fr mkMs_fr immF w (h5 hz)
  · rw [h0] at hz
    obtain ⟨q, q1, q2⟩ := h6 hz
    exact ⟨q, by simp [mkMs, mR_SetI, mR_SetR, q1], RptOK.fr mkMs_fr immF w q2⟩
theorem frn {P : Nat → Nat → Prop} (h : fr (fun _ _ => False) c M N) : fr P c M N := h.mono (Nat.le_refl _) (fun _ _ _ z => z.elim)
theorem c_Rp_sendBack (C : cW M b n D) (u40 : uOK D) (hr : r < n) {q fr' : Nat} {kind bb b0 : Int32} {o o' : Option Nat} (hq : mKd M q = 10) (q1 : mI M 1577 q 0 = nI fr') (q2 : mI M 1579 q 0 = nI i) (q3 : mI M 1580 q 0 = b0) (hb : ¬ kind = 4 → b0 = bb)
    (ho : (kind = 0 ∨ kind = 1 ∨ kind = 2 ∨ kind = 4) → OrdR M o (D 5 (30 * r + i)) (D 6 (30 * r + i)) (D 7 (30 * r + i)) (D 8 (30 * r + i))) (ho' : kind = 6 → ∃ p, o' = some p ∧ RptOK M p (nI r) (D 4 (30 * r + i)) (D 5 (30 * r + i)) (D 6 (30 * r + i)) (D 7 (30 * r + i)) (D 8 (30 * r + i)) (D 10 (30 * r + i))) :
    EX eL X_Rp_sendBack 0 [some (.inr (some (aR b n r))), some (.inr (some q)), some (.inl kind), some (.inr o), some (.inr o')] [] M (fun x N => x = none ∧ cW N b n (g_send D kind r fr' i bb) ∧ fr (pNet b) 1 M N) := by
  have S := C.sk
  have kN : ∀ {q e : Nat}, mKd M q = e → ¬ e = 0 → mKd (mNew M 10 0 7) q = e := fun {q e} h h0 => by
    rw [mKd_New, if_neg (fun z => by have := C.w.lt (q := q) (by rw [h]; exact h0); omega)]; exact h
  refine sg_Rp_sendBack_0 ⟨s_kRp S hr, ?_⟩
  rintro _ _ rfl rfl
  refine ⟨kN (s_kRp S hr) (by decide), q, rfl, kN hq (by decide), ?_⟩
  simp only [mI_New, s_num S hr, q1, q2, q3]
  refine EX.mono c_Ms_init fun x N hv => ?_
  obtain ⟨rfl, rfl⟩ := hv
  have hf : fr (fun _ _ => False) 1 M (mkMs M kind (nI r) (nI fr') (nI i) b0 o o') := mkMs_fr
  have C1 := C.alloc hf (mkMs_wf C.w)
  refine ⟨rfl, b + 1, s_rnet S hr, s_kNet C1.sk, EX.mono (c_Net_send C1 u40 (mkMs_ok C.w (K := gK D kind r fr' i bb) rfl rfl rfl rfl hb ho ho')) fun x N hv => ?_⟩
  obtain ⟨rfl, h1, h2⟩ := hv
  exact ⟨rfl, trivial, h1, (frn hf).trans h2⟩
theorem c_Rp_sendToOthers (C : cW M b n D) (u40 : uOK D) (hr : r < n) {kind bb b0 : Int32} {o : Option Nat} (hb : ¬ kind = 4 → b0 = bb) (h6 : ¬ kind = 6)
    (ho : (kind = 0 ∨ kind = 1 ∨ kind = 2 ∨ kind = 4) → OrdR M o (D 5 (30 * r + i)) (D 6 (30 * r + i)) (D 7 (30 * r + i)) (D 8 (30 * r + i))) :
    EX eL X_Rp_sendToOthers 0 [some (.inr (some (aR b n r))), some (.inl kind), some (.inl (nI i)), some (.inl b0), some (.inr o), none] [] M (fun x N => x = none ∧ cW N b n (g_all D n kind r i bb) ∧ fr (pNet b) 5 M N) := by
  have h5 := C.n5
  refine sg_Rp_sendToOthers_0 ?_
  have loop : ∀ t k N, t + k = n → cW N b n (g_allU D kind r i bb k) → fr (pNet b) k M N → EX eL X_Rp_sendToOthers 3 [some (.inr (some (aR b n r))), some (.inl kind), some (.inl (nI i)), some (.inl b0), some (.inr o), some (.inl (nI k))] [] N (fun x N => x = none ∧ cW N b n (g_all D n kind r i bb) ∧ fr (pNet b) 5 M N) := by
    intro t
    induction t with
    | zero =>
      intro k N hk CN hf
      have hk : k = n := by omega
      subst hk
      have S := CN.sk
      refine sg_Rp_sendToOthers_3 ⟨s_kRp S hr, fun _ => ⟨rfl, CN, hf.mono h5 (fun _ _ _ z => z)⟩, fun h => ?_⟩
      rw [s_rsz S hr] at h
      exact absurd (Int32.le_refl _) h
    | succ t ih =>
      intro k N hk CN hf
      have S := CN.sk
      refine sg_Rp_sendToOthers_3 ⟨s_kRp S hr, fun h => ?_, fun _ => ⟨fun h => ?_, fun h => ?_⟩⟩
      · rw [s_rsz S hr, nle (by omega) (by omega)] at h; omega
      · rintro _ rfl
        rw [s_num S hr, neq (by omega) (by omega)] at h
        rw [nI_i1]
        refine ih (k + 1) N (by omega) ?_ (hf.mono (by omega) (fun _ _ _ z => z))
        rw [g_allU, if_pos h]
        exact CN
      · rintro _ _ rfl rfl
        rw [s_num S hr, neq (by omega) (by omega)] at h
        have hkr : mKd (mNew N 10 0 7) (aR b n r) = 3 := by
          rw [mKd_New, if_neg (fun z => by have := CN.w.lt (q := aR b n r) (by rw [s_kRp S hr]; decide); omega)]; exact s_kRp S hr
        refine ⟨hkr, ?_⟩
        simp only [mI_New, s_num S hr]
        refine EX.mono c_Ms_init fun x L hv => ?_
        obtain ⟨rfl, rfl⟩ := hv
        have hf1 : fr (fun _ _ => False) 1 N (mkMs N kind (nI r) (nI k) (nI i) b0 o none) := mkMs_fr
        have C1 := CN.alloc hf1 (mkMs_wf CN.w)
        have hK : MsgOK (mkMs N kind (nI r) (nI k) (nI i) b0 o none) (mSz N) (gK (g_allU D kind r i bb k) kind r k i bb) := by
          refine mkMs_ok CN.w rfl rfl rfl rfl hb (fun z => ?_) (fun z => absurd z h6)
          have := OrdR.fr hf pNet_mut.imm C.w (ho z)
          show OrdR N o (g_allU D kind r i bb k 5 (30 * r + i)) (g_allU D kind r i bb k 6 (30 * r + i)) (g_allU D kind r i bb k 7 (30 * r + i)) (g_allU D kind r i bb k 8 (30 * r + i))
          rw [g_allU_ne (by decide) (by decide) (by decide), g_allU_ne (by decide) (by decide) (by decide), g_allU_ne (by decide) (by decide) (by decide), g_allU_ne (by decide) (by decide) (by decide)]
          exact this
        refine ⟨rfl, b + 1, s_rnet S hr, s_kNet C1.sk, EX.mono (c_Net_send C1 (uOK_allU u40 k) hK) fun x L hv => ?_⟩
        obtain ⟨rfl, h1, h2⟩ := hv
        refine ⟨rfl, ?_⟩
        rintro _ rfl
        rw [nI_i1]
        refine ih (k + 1) L (by omega) ?_ (hf.trans ((frn hf1).trans h2))
        rw [g_allU, if_neg h]
        exact h1
  exact loop n 0 M (by omega) C (fr.refl _ M)
theorem me_max_seq {s : Nat} (hs : s < 2147483647) (x : Int32) : me_max x (nI s + 1) = if nI s < x then x else nI s + 1 := by
  unfold me_max
  have e1 : (nI s + 1).toInt = s + 1 := by rw [p1]; exact nI_toInt (by omega)
  have e2 : (nI s).toInt = s := nI_toInt (by omega)
  by_cases h : nI s < x
  · rw [if_pos h, if_neg]
    rw [Int32.lt_iff_toInt_lt] at h ⊢
    omega
  · rw [if_neg h, if_pos]
    rw [Int32.lt_iff_toInt_lt] at h ⊢
    omega
theorem c_Rp_fitted (C : cW M b n D) (hr : r < n) (hi : i < 6 * n) (hs : ∀ j, j < 6 * n → ∃ s, D 7 (30 * r + j) = nI s ∧ s < 2147483647) {q : Nat} {cd vl sq dp : Int32} (ha : OrdOK M q cd vl sq dp) :
    EX eL X_Rp_fitted 0 [some (.inr (some (aR b n r))), some (.inl (nI i)), some (.inr (some q)), none, none, none, none] [] M (fun x N => ∃ p, x = some (.inr (some p)) ∧ OrdOK N p cd vl (g_fitU D r i cd sq dp (6 * n)).1 (g_fitU D r i cd sq dp (6 * n)).2 ∧ fr (fun _ _ => False) 1 M N ∧ wf N) := by
  have h5 := C.n5
  have S := C.sk
  obtain ⟨a1, a2, a3, z, a4, a5⟩ := ha
  refine sg_Rp_fitted_0 ⟨q, rfl, a1, ?_⟩
  rintro _ rfl _ rfl
  rw [a2, a3]
  have loop : ∀ t j, t + j = 6 * n → EX eL X_Rp_fitted 14 [some (.inr (some (aR b n r))), some (.inl (nI i)), some (.inr (some q)), some (.inl (g_fitU D r i cd sq dp j).1), some (.inl (g_fitU D r i cd sq dp j).2), some (.inl (nI j)), none] [] M (fun x N => ∃ p, x = some (.inr (some p)) ∧ OrdOK N p cd vl (g_fitU D r i cd sq dp (6 * n)).1 (g_fitU D r i cd sq dp (6 * n)).2 ∧ fr (fun _ _ => False) 1 M N ∧ wf N) := by
    intro t
    induction t with
    | zero =>
      intro j hj
      have hj : j = 6 * n := by omega
      subst hj
      refine sg_Rp_fitted_14 ⟨s_kRp S hr, _, s_ents S hr, s_kEnts S hr, fun _ => ?_, fun h => ?_⟩
      · rintro _ _ rfl rfl
        have hkq : mKd (mNew M 8 0 3) q = 8 := by
          rw [mKd_New, if_neg (fun z => by have := C.w.lt (q := q) (by rw [a1]; decide); omega)]; exact a1
        refine ⟨q, rfl, hkq, ?_⟩
        rw [mR_New, a4]
        refine EX.mono c_Or_init fun x N hv => ?_
        obtain ⟨rfl, rfl⟩ := hv
        exact ⟨rfl, _, rfl, mkOr_ok C.w a5, mkOr_fr, mkOr_wf C.w⟩
      · rw [s_lEnts S hr] at h
        exact absurd (Int32.le_refl _) h
    | succ t ih =>
      intro j hj
      have hj6 : j < 6 * n := by omega
      have go := ih (j + 1) (by omega)
      rw [g_fitU] at go
      refine sg_Rp_fitted_14 ⟨s_kRp S hr, _, s_ents S hr, s_kEnts S hr, fun h => ?_, fun _ => ⟨?_, _, ?_, s_kEnt S hr hj6, fun h => ?_, fun h => ⟨fun h2 => ?_, fun h2 => ?_⟩⟩⟩
      · rw [s_lEnts S hr, oN, nle (by omega) (by omega)] at h; omega
      · rw [s_lEnts S hr]; exact vin hj6 (by omega)
      · rw [cl (by omega)]; exact s_ent S hr hj6
      · rintro _ rfl
        rw [nI_i1]
        rw [neq (by omega) (by omega)] at h
        rw [if_neg (by simp [g_rel, h])] at go
        exact go
      · rintro _ rfl
        rw [nI_i1]
        have hz : D 4 (30 * r + j) = 0 := by
          apply Classical.byContradiction
          intro hz
          obtain ⟨q', e1, -⟩ := (C.ent hr hj6).2.2.2.2.2.2 hz
          rw [h2] at e1
          cases e1
        rw [if_neg (by simp [g_rel, hz])] at go
        exact go
      · have hz : ¬ D 4 (30 * r + j) = 0 := fun hz => h2 ((C.ent hr hj6).2.2.2.2.2.1 hz)
        obtain ⟨q', e1, e2, e3, e4, y, e5, e6⟩ := (C.ent hr hj6).2.2.2.2.2.2 hz
        refine ⟨q', e1, e2, q, rfl, a1, y, e5, e6.1, ?_⟩
        rw [a4]
        refine EX.mono (c_Cmd_interferesWith e6 a5) fun x N hv => ?_
        obtain ⟨rfl, rfl⟩ := hv
        rw [neq (by omega) (by omega)] at h
        refine ⟨_, rfl, fun h3 => ?_, fun h3 => ⟨e2, ?_⟩⟩
        · rintro _ rfl
          rw [nI_i1]
          rw [if_neg (by simp [g_rel, b01_0 h3])] at go
          exact go
        · rintro _ rfl _ rfl _ rfl
          rw [nI_i1, e3]
          obtain ⟨s, s1, s2⟩ := hs j hj6
          rw [if_pos (by simp [g_rel, b01_1 h3, h, hz])] at go
          rw [s1, me_max_seq s2]
          rw [s1] at go
          exact go
  exact loop (6 * n) 0 (by omega)
end SENDS
