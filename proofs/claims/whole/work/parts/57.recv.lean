section RECV
variable {c : Nat} {M N : me_M} {b n r i : Nat} {D E : me_D}
set_option maxHeartbeats 1000000 in
theorem c_Rp_receive (C : cW M b n D) (I : dI D n c) (hc9 : c ≤ 100000) {q fr' kd : Nat} (G : gotOK M q D n r fr' i) (hK : D 24 440 = nI kd) (hkd : kd ≤ 6) : EX eL X_Rp_receive 0 [some (.inr (some (aR b n r))), some (.inr (some q)), none] [] M (fun x N => x = none ∧ cW N b n (if D 1 r = 0 then g_receive D n (D 24 440) r fr' i else D) ∧ fr (pC (mdA b n)) 29 M N) := by
  have G0 := G
  obtain ⟨⟨g0, g1, g2, g3, g4, g5, g6, g7⟩, k1, k2, k3, hf, hr, hi⟩ := G
  have S := C.sk
  have n5 := C.n5
  obtain ⟨i1, i2, i3, u40, i5, i6, i7⟩ := I
  obtain ⟨⟨st, t1, t2⟩, -, -, -, t5, -, ⟨k, t7, t8, t9, t10, t11, t12, t13⟩, t14, -⟩ := i7 r i hr hi
  have hs : ∀ j, j < 6 * n → ∃ s, D 7 (30 * r + j) = nI s ∧ s < 2147483647 := by
    intro j hj
    obtain ⟨-, -, ⟨s, s1, s2⟩, -⟩ := i7 r j hr hj
    exact ⟨s, s1, by omega⟩
  have h5 : D 4 (30 * r + i) < 5 := by rw [t1]; exact (nlt (a := st) (b := 5) (by omega) (by decide)).mpr (by omega)
  have E0 := C.ent hr hi
  have ei : mI M 1579 q 0 = nI i := g4.trans k3
  have ek : mI M 1576 q 0 = D 24 440 := g1
  have ent : mR M 104 (aR b n r + 1) i = some (aR b n r + 2 + i) := s_ent S hr hi
  refine sg_Rp_receive_0 ⟨s_kRp S hr, fun hcr => ?_, fun hcr => ?_⟩
  · rw [C.cr hr] at hcr
    rw [if_pos hcr]
    refine ⟨q, rfl, g0, _, s_ents S hr, s_kEnts S hr, by rw [ei, s_lEnts S hr]; exact vin hi (by omega), EX.mono (c_Ms_asksForVote g0 ek) fun x N hv => ?_⟩
    obtain ⟨rfl, rfl⟩ := hv
    rw [ei, cl (by omega), ent]
    generalize hR : g_receive D n (D 24 440) r fr' i = RES
    have fin : ∀ (X : me_D) (P : Option me_V → me_M → Prop), True := fun _ _ => trivial
    have e0 : D 24 440 = 0 → ¬ 3 ≤ D 4 (30 * r + i) → EX eL X_Rp_onPreaccept 0 [some (.inr (some (aR b n r))), some (.inr (some q)), some (.inr (some (aR b n r + 2 + i))), none] [] N (fun y L => y = none ∧ (none : Option me_V) = none ∧ cW L b n RES ∧ fr (pC (mdA b n)) 29 N L) := by
      intro z z3
      refine EX.mono (c_Rp_onPreaccept C u40 G0 z (Int32.not_le.mp z3) hs) fun y L hv => ?_
      obtain ⟨rfl, w1, w2⟩ := hv
      refine ⟨rfl, rfl, ?_, w2.mono (by omega) (fun _ _ _ z => z)⟩
      rw [← hR, g_receive, if_neg (fun y => z3 y.2), if_pos z]
      exact w1
    have e2 : D 24 440 = 2 → ¬ 3 ≤ D 4 (30 * r + i) → EX eL X_Rp_onAccept 0 [some (.inr (some (aR b n r))), some (.inr (some q)), some (.inr (some (aR b n r + 2 + i)))] [] N (fun y L => y = none ∧ (none : Option me_V) = none ∧ cW L b n RES ∧ fr (pC (mdA b n)) 29 N L) := by
      intro z z3
      refine EX.mono (c_Rp_onAccept C u40 G0 z (Int32.not_le.mp z3)) fun y L hv => ?_
      obtain ⟨rfl, w1, w2⟩ := hv
      refine ⟨rfl, rfl, ?_, w2.mono (by omega) (fun _ _ _ z => z)⟩
      rw [← hR, g_receive, if_neg (fun y => z3 y.2), if_neg (by rw [z]; decide), if_pos z]
      exact w1
    have e5 : D 24 440 = 5 → ¬ 3 ≤ D 4 (30 * r + i) → EX eL X_Rp_onPrepare 0 [some (.inr (some (aR b n r))), some (.inr (some q)), some (.inr (some (aR b n r + 2 + i)))] [] N (fun y L => y = none ∧ (none : Option me_V) = none ∧ cW L b n RES ∧ fr (pC (mdA b n)) 29 N L) := by
      intro z z3
      refine EX.mono (c_Rp_onPrepare C u40 G0 z) fun y L hv => ?_
      obtain ⟨rfl, w1, w2⟩ := hv
      refine ⟨rfl, rfl, ?_, w2.mono (by omega) (fun _ _ _ z => z)⟩
      rw [← hR, g_receive, if_neg (fun y => z3 y.2), if_neg (by rw [z]; decide), if_neg (by rw [z]; decide), if_pos z]
      exact w1
    have no : ∀ {v : Int32}, D 24 440 = v → (¬ v = 0 ∧ ¬ v = 2 ∧ ¬ v = 5) → ¬ ((D 24 440 = 0 ∨ D 24 440 = 2 ∨ D 24 440 = 5) ∧ 3 ≤ D 4 (30 * r + i)) := by
      rintro v hv ⟨a, b', c'⟩ ⟨z | z | z, -⟩
      · exact a (hv.symm.trans z)
      · exact b' (hv.symm.trans z)
      · exact c' (hv.symm.trans z)
    have e4 : D 24 440 = 4 → EX eL X_Rp_onCommit 0 [some (.inr (some (aR b n r))), some (.inr (some q)), some (.inr (some (aR b n r + 2 + i)))] [] N (fun y L => y = none ∧ (none : Option me_V) = none ∧ cW L b n RES ∧ fr (pC (mdA b n)) 29 N L) := by
      intro z
      refine EX.mono (c_Rp_onCommit C G0 z h5) fun y L hv => ?_
      obtain ⟨rfl, w1, w2⟩ := hv
      refine ⟨rfl, rfl, ?_, w2.mono (by omega) (fun _ _ _ z => z)⟩
      rw [← hR, g_receive, if_neg (no z (by decide)), if_neg (by rw [z]; decide), if_neg (by rw [z]; decide), if_neg (by rw [z]; decide), if_pos z]
      exact w1
    have e1 : D 24 440 = 1 → EX eL X_Rp_onPreacceptOk 0 [some (.inr (some (aR b n r))), some (.inr (some q)), none, none, none, none] [] N (fun y L => y = none ∧ (none : Option me_V) = none ∧ cW L b n RES ∧ fr (pC (mdA b n)) 29 N L) := by
      intro z
      refine EX.mono (c_Rp_onPreacceptOk C u40 G0 z h5 i2 t14 t7 t8 (fun y1 y2 => ?_)) fun y L hv => ?_
      · rcases y2 with y2 | y2
        · have := t10 y1 y2; omega
        · have := t11 y1 y2; omega
      · obtain ⟨rfl, w1, w2⟩ := hv
        refine ⟨rfl, rfl, ?_, w2.mono (by omega) (fun _ _ _ z => z)⟩
        rw [← hR, g_receive, if_neg (no z (by decide)), if_neg (by rw [z]; decide), if_neg (by rw [z]; decide), if_neg (by rw [z]; decide), if_neg (by rw [z]; decide), if_pos z]
        exact w1
    have e3 : D 24 440 = 3 → EX eL X_Rp_onAcceptOk 0 [some (.inr (some (aR b n r))), some (.inr (some q)), none] [] N (fun y L => y = none ∧ (none : Option me_V) = none ∧ cW L b n RES ∧ fr (pC (mdA b n)) 29 N L) := by
      intro z
      refine EX.mono (c_Rp_onAcceptOk C u40 G0 z h5 i2 t14 t7 t8 (fun y1 y2 => by have := t12 y1 y2; omega)) fun y L hv => ?_
      obtain ⟨rfl, w1, w2⟩ := hv
      refine ⟨rfl, rfl, ?_, w2.mono (by omega) (fun _ _ _ z => z)⟩
      rw [← hR, g_receive, if_neg (no z (by decide)), if_neg (by rw [z]; decide), if_neg (by rw [z]; decide), if_neg (by rw [z]; decide), if_neg (by rw [z]; decide), if_neg (by rw [z]; decide), if_pos z]
      exact w1
    have e6 : D 24 440 = 6 → EX eL X_Rp_onPromise 0 [some (.inr (some (aR b n r))), some (.inr (some q)), some (.inr (some (aR b n r + 2 + i))), none] [] N (fun y L => y = none ∧ (none : Option me_V) = none ∧ cW L b n RES ∧ fr (pC (mdA b n)) 29 N L) := by
      intro z
      refine EX.mono (c_Rp_onPromise C u40 G0 z h5 i2 hs t7 t8 t13) fun y L hv => ?_
      obtain ⟨rfl, w1, w2⟩ := hv
      refine ⟨rfl, rfl, ?_, w2.mono (by omega) (fun _ _ _ z => z)⟩
      rw [← hR, g_receive, if_neg (no z (by decide)), if_neg (by rw [z]; decide), if_neg (by rw [z]; decide), if_neg (by rw [z]; decide), if_neg (by rw [z]; decide), if_neg (by rw [z]; decide), if_neg (by rw [z]; decide), if_pos z]
      exact w1
    have out : ¬ ((D 24 440).toInt < 0 ∨ 6 < (D 24 440).toInt) := by
      rw [hK, nI_toInt (by omega)]; omega
    refine ⟨_, rfl, fun ha => ⟨g0, ?_⟩, fun ha => ⟨_, rfl, s_kEnt S hr hi, EX.mono (c_En_isSettled (s_kEnt S hr hi) E0.1 h5) fun x N hv => ?_⟩⟩
    · have h9 := b01_0 ha
      rw [decide_eq_false_iff_not] at h9
      rw [ek]
      exact ⟨fun z => absurd z out, fun z => absurd (Or.inl z) h9, fun z => ⟨s_kRp S hr, e1 z⟩, fun z => absurd (Or.inr (Or.inl z)) h9, fun z => ⟨s_kRp S hr, e3 z⟩, fun z => ⟨s_kRp S hr, e4 z⟩, fun z => absurd (Or.inr (Or.inr z)) h9, fun z => ⟨s_kRp S hr, e6 z⟩⟩
    · obtain ⟨rfl, rfl⟩ := hv
      have h9 := b01_1 ha
      rw [decide_eq_true_eq] at h9
      refine ⟨_, rfl, fun hb => ⟨g0, ?_⟩, fun hb => ⟨s_kEnt S hr hi, s_kRp S hr, ?_⟩⟩
      · have h8 := b01_0 hb
        rw [decide_eq_false_iff_not] at h8
        rw [ek]
        exact ⟨fun z => absurd z out, fun z => ⟨s_kRp S hr, e0 z h8⟩, fun z => ⟨s_kRp S hr, e1 z⟩, fun z => ⟨s_kRp S hr, e2 z h8⟩, fun z => ⟨s_kRp S hr, e3 z⟩, fun z => ⟨s_kRp S hr, e4 z⟩, fun z => ⟨s_kRp S hr, e5 z h8⟩, fun z => ⟨s_kRp S hr, e6 z⟩⟩
      · have h8 := b01_1 hb
        rw [decide_eq_true_eq] at h8
        have hz : ¬ D 4 (30 * r + i) = 0 := fun z => by rw [z] at h8; exact absurd h8 (by decide)
        refine EX.mono (c_Rp_sendBack (q := q) (fr' := fr') (i := i) (bb := 0) C u40 hr g0 (g2.trans k1) ei rfl (fun z => absurd rfl z) (fun _ => E0.2.2.2.2.2.2 hz) (fun z => absurd z (by decide))) fun y L hv => ?_
        obtain ⟨rfl, w1, w2⟩ := hv
        refine ⟨rfl, rfl, ?_, netC w2 (by omega)⟩
        rw [← hR, g_receive, if_pos ⟨h9, h8⟩]
        exact w1
  · rw [C.cr hr] at hcr
    rw [if_neg hcr]
    exact ⟨rfl, C, (fr.refl _ _).mono (by omega) (fun _ _ _ z => z)⟩
end RECV
