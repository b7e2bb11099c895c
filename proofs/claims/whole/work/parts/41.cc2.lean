section CC2
variable {M N : me_M} {b n r i : Nat} {D : me_D}
theorem c_LM_workingReplica_ok (C : cW M b n D) (hr : r < n) (hc : D 1 r = 0) : EX eL X_LM_workingReplica 0 [some (.inr (some b)), some (.inl (nI r))] [] M (fun x N => x = some (.inr (some (aR b n r))) ∧ N = M) := by
  have S := C.2.2.1
  have h5 := C.n5
  refine sg_LM_workingReplica_0 ⟨s_kLM S, EX.mono (c_LM_isReplica S) fun x N hv => ?_⟩
  obtain ⟨rfl, rfl⟩ := hv
  refine ⟨_, rfl, fun h => absurd h (b01t ⟨nI_pos' (by omega), (nlt (by omega) (by omega)).mpr hr⟩), fun _ => ?_⟩
  have hcr : mI N 1135 (aR b n r) 0 = 0 := by rw [C.2.2.2.2.2.2.2.2.2.1 r hr]; exact hc
  refine ⟨s_kLM S, _, s_reps S, s_kReps S, ?_, _, ?_, s_kRp S hr, fun h => absurd hcr h, fun _ => ?_⟩
  · rw [s_lReps S]; exact vin hr (by omega)
  · rw [cl (by omega)]; exact s_rep S hr
  · rw [cl (by omega), s_rep S hr]
    exact ⟨by rw [s_lReps S]; exact vin hr (by omega), rfl, rfl⟩
theorem c_LM_workingReplica_bad (C : cW M b n D) {v : Int32} (hb : ¬ ∃ r, r < n ∧ v = nI r ∧ D 1 r = 0) : EX eL X_LM_workingReplica 0 [some (.inr (some b)), some (.inl v)] [] M (fun x N => x = some (.inr none) ∧ N = M) := by
  have S := C.2.2.1
  have h5 := C.n5
  refine sg_LM_workingReplica_0 ⟨s_kLM S, EX.mono (c_LM_isReplica S) fun x N hv => ?_⟩
  obtain ⟨rfl, rfl⟩ := hv
  refine ⟨_, rfl, fun _ => ⟨rfl, rfl⟩, fun h => ?_⟩
  have h9 := b01_1 h
  rw [decide_eq_true_eq] at h9
  obtain ⟨r, hr, rfl⟩ := nI_of (x := v) (Int32.not_lt.mpr h9.1)
  have hrn : r < n := (nlt (by omega) (by omega)).mp h9.2
  have hcr : ¬ mI N 1135 (aR b n r) 0 = 0 := by rw [C.2.2.2.2.2.2.2.2.2.1 r hrn]; exact fun z => hb ⟨r, hrn, rfl, z⟩
  refine ⟨s_kLM S, _, s_reps S, s_kReps S, ?_, _, ?_, s_kRp S hrn, fun _ => ⟨rfl, rfl⟩, fun h => absurd h hcr⟩
  · rw [s_lReps S]; exact vin hrn (by omega)
  · rw [cl (by omega)]; exact s_rep S hrn
theorem c_LM_entryAt_ok (C : cW M b n D) (hr : r < n) (hi : i < 6 * n) : EX eL X_LM_entryAt 0 [some (.inr (some b)), some (.inl (nI r)), some (.inl (nI i)), none] [] M (fun x N => x = some (.inr (some (aR b n r + 2 + i))) ∧ N = M) := by
  have S := C.2.2.1
  have h5 := C.n5
  refine sg_LM_entryAt_0 ⟨s_kLM S, EX.mono (c_LM_isReplica S) fun x N hv => ?_⟩
  obtain ⟨rfl, rfl⟩ := hv
  refine ⟨_, rfl, fun h => absurd h (b01t ⟨nI_pos' (by omega), (nlt (by omega) (by omega)).mpr hr⟩), fun _ => ⟨fun h => absurd h (nI_pos (by omega)), fun _ => ⟨s_kLM S, fun h => ?_, fun _ => ?_⟩⟩⟩
  · rw [s_size S, m6, nle (by omega) (by omega)] at h; omega
  · refine ⟨_, s_reps S, s_kReps S, ?_, _, ?_, s_kRp S hr, _, s_ents S hr, s_kEnts S hr, ?_, ?_⟩
    · rw [s_lReps S]; exact vin hr (by omega)
    · rw [cl (by omega)]; exact s_rep S hr
    · rw [s_lEnts S hr]; exact vin hi (by omega)
    · rw [cl (by omega), s_ent S hr hi]; exact ⟨rfl, rfl⟩
theorem c_LM_entryAt_bad (C : cW M b n D) {v w : Int32} (hk : ¬ (0 ≤ v ∧ v < nI n ∧ 0 ≤ w ∧ w < nI (6 * n))) : EX eL X_LM_entryAt 0 [some (.inr (some b)), some (.inl v), some (.inl w), none] [] M (fun x N => x = some (.inr none) ∧ N = M) := by
  have S := C.2.2.1
  have h5 := C.n5
  refine sg_LM_entryAt_0 ⟨s_kLM S, EX.mono (c_LM_isReplica S) fun x N hv => ?_⟩
  obtain ⟨rfl, rfl⟩ := hv
  refine ⟨_, rfl, fun _ => ⟨rfl, rfl⟩, fun h => ⟨fun _ => ⟨rfl, rfl⟩, fun h1 => ⟨s_kLM S, fun _ => ⟨rfl, rfl⟩, fun h2 => ?_⟩⟩⟩
  have h9 := b01_1 h
  rw [decide_eq_true_eq] at h9
  rw [s_size S, m6] at h2
  exact absurd ⟨h9.1, h9.2, Int32.not_lt.mp h1, Int32.not_le.mp h2⟩ hk
theorem c_LM_orderAt_ok (C : cW M b n D) (hr : r < n) (hi : i < 6 * n) : EX eL X_LM_orderAt 0 [some (.inr (some b)), some (.inl (nI r)), some (.inl (nI i)), none] [] M (fun x N => x = some (.inr (mR M 1193 (aR b n r + 2 + i) 0)) ∧ N = M) := by
  refine sg_LM_orderAt_0 ⟨s_kLM C.2.2.1, EX.mono (c_LM_entryAt_ok C hr hi) fun x N hv => ?_⟩
  obtain ⟨rfl, rfl⟩ := hv
  exact ⟨_, rfl, fun _ => ⟨_, rfl, s_kEnt C.2.2.1 hr hi, rfl, rfl⟩, fun h => by cases h⟩
theorem c_LM_orderAt_bad (C : cW M b n D) {v w : Int32} (hk : ¬ (0 ≤ v ∧ v < nI n ∧ 0 ≤ w ∧ w < nI (6 * n))) : EX eL X_LM_orderAt 0 [some (.inr (some b)), some (.inl v), some (.inl w), none] [] M (fun x N => x = some (.inr none) ∧ N = M) := by
  refine sg_LM_orderAt_0 ⟨s_kLM C.2.2.1, EX.mono (c_LM_entryAt_bad C hk) fun x N hv => ?_⟩
  obtain ⟨rfl, rfl⟩ := hv
  exact ⟨_, rfl, fun h => absurd rfl h, fun _ => ⟨rfl, rfl⟩⟩
theorem c_LM_state_bad (C : cW M b n D) {v w : Int32} (hk : ¬ (0 ≤ v ∧ v < nI n ∧ 0 ≤ w ∧ w < nI (6 * n))) : EX eL X_LM_state 0 [some (.inr (some b)), some (.inl v), some (.inl w), none] [] M (fun x N => x = some (.inl (-1)) ∧ N = M) := by
  refine sg_LM_state_0 ⟨s_kLM C.2.2.1, EX.mono (c_LM_entryAt_bad C hk) fun x N hv => ?_⟩
  obtain ⟨rfl, rfl⟩ := hv
  exact ⟨_, rfl, fun h => absurd rfl h, fun _ => ⟨rfl, rfl⟩⟩
theorem c_LM_state_ok (C : cW M b n D) (hr : r < n) (hi : i < 6 * n) : EX eL X_LM_state 0 [some (.inr (some b)), some (.inl (nI r)), some (.inl (nI i)), none] [] M (fun x N => x = some (.inl (D 4 (30 * r + i))) ∧ N = M) := by
  refine sg_LM_state_0 ⟨s_kLM C.2.2.1, EX.mono (c_LM_entryAt_ok C hr hi) fun x N hv => ?_⟩
  obtain ⟨rfl, rfl⟩ := hv
  exact ⟨_, rfl, fun _ => ⟨_, rfl, s_kEnt C.2.2.1 hr hi, by rw [(C.2.2.2.1 r i hr hi).1], rfl⟩, fun h => by cases h⟩
theorem c_LM_promised_bad (C : cW M b n D) {v w : Int32} (hk : ¬ (0 ≤ v ∧ v < nI n ∧ 0 ≤ w ∧ w < nI (6 * n))) : EX eL X_LM_promised 0 [some (.inr (some b)), some (.inl v), some (.inl w), none] [] M (fun x N => x = some (.inl (-1)) ∧ N = M) := by
  refine sg_LM_promised_0 ⟨s_kLM C.2.2.1, EX.mono (c_LM_entryAt_bad C hk) fun x N hv => ?_⟩
  obtain ⟨rfl, rfl⟩ := hv
  exact ⟨_, rfl, fun h => absurd rfl h, fun _ => ⟨rfl, rfl⟩⟩
theorem c_LM_promised_ok (C : cW M b n D) (hr : r < n) (hi : i < 6 * n) : EX eL X_LM_promised 0 [some (.inr (some b)), some (.inl (nI r)), some (.inl (nI i)), none] [] M (fun x N => x = some (.inl (D 9 (30 * r + i))) ∧ N = M) := by
  refine sg_LM_promised_0 ⟨s_kLM C.2.2.1, EX.mono (c_LM_entryAt_ok C hr hi) fun x N hv => ?_⟩
  obtain ⟨rfl, rfl⟩ := hv
  exact ⟨_, rfl, fun _ => ⟨_, rfl, s_kEnt C.2.2.1 hr hi, by rw [(C.2.2.2.1 r i hr hi).2.1], rfl⟩, fun h => by cases h⟩
theorem c_LM_command_bad (C : cW M b n D) {v w : Int32} (hk : ¬ (0 ≤ v ∧ v < nI n ∧ 0 ≤ w ∧ w < nI (6 * n))) : EX eL X_LM_command 0 [some (.inr (some b)), some (.inl v), some (.inl w), none] [] M (fun x N => x = some (.inl (-1)) ∧ N = M) := by
  refine sg_LM_command_0 ⟨s_kLM C.2.2.1, EX.mono (c_LM_orderAt_bad C hk) fun x N hv => ?_⟩
  obtain ⟨rfl, rfl⟩ := hv
  exact ⟨_, rfl, fun h => absurd rfl h, fun _ => ⟨rfl, rfl⟩⟩
theorem c_LM_command_ok (C : cW M b n D) (hr : r < n) (hi : i < 6 * n) : EX eL X_LM_command 0 [some (.inr (some b)), some (.inl (nI r)), some (.inl (nI i)), none] [] M (fun x N => x = some (.inl (if ¬ D 4 (30 * r + i) = 0 then D 5 (30 * r + i) else (-1))) ∧ N = M) := by
  refine sg_LM_command_0 ⟨s_kLM C.2.2.1, EX.mono (c_LM_orderAt_ok C hr hi) fun x N hv => ?_⟩
  obtain ⟨rfl, rfl⟩ := hv
  obtain ⟨-, -, -, -, -, e1, e2⟩ := C.2.2.2.1 r i hr hi
  by_cases hs : D 4 (30 * r + i) = 0
  · rw [if_neg (fun z => z hs), e1 hs]
    exact ⟨_, rfl, fun h => absurd rfl h, fun _ => ⟨rfl, rfl⟩⟩
  · rw [if_pos hs]
    obtain ⟨q, h2, h1⟩ := e2 hs
    rw [h2]
    refine ⟨_, rfl, fun _ => by
      obtain ⟨k1, -, -, z, k4, k5⟩ := h1
      refine ⟨q, rfl, k1, z, k4, k5.1, EX.mono (c_Cmd_code k5) fun x N hv => ?_⟩
      obtain ⟨rfl, rfl⟩ := hv
      exact ⟨_, rfl, rfl, rfl⟩, fun h => by cases h⟩
theorem c_LM_seq_bad (C : cW M b n D) {v w : Int32} (hk : ¬ (0 ≤ v ∧ v < nI n ∧ 0 ≤ w ∧ w < nI (6 * n))) : EX eL X_LM_seq 0 [some (.inr (some b)), some (.inl v), some (.inl w), none] [] M (fun x N => x = some (.inl (-1)) ∧ N = M) := by
  refine sg_LM_seq_0 ⟨s_kLM C.2.2.1, EX.mono (c_LM_orderAt_bad C hk) fun x N hv => ?_⟩
  obtain ⟨rfl, rfl⟩ := hv
  exact ⟨_, rfl, fun h => absurd rfl h, fun _ => ⟨rfl, rfl⟩⟩
theorem c_LM_seq_ok (C : cW M b n D) (hr : r < n) (hi : i < 6 * n) : EX eL X_LM_seq 0 [some (.inr (some b)), some (.inl (nI r)), some (.inl (nI i)), none] [] M (fun x N => x = some (.inl (if ¬ D 4 (30 * r + i) = 0 then D 7 (30 * r + i) else (-1))) ∧ N = M) := by
  refine sg_LM_seq_0 ⟨s_kLM C.2.2.1, EX.mono (c_LM_orderAt_ok C hr hi) fun x N hv => ?_⟩
  obtain ⟨rfl, rfl⟩ := hv
  obtain ⟨-, -, -, -, -, e1, e2⟩ := C.2.2.2.1 r i hr hi
  by_cases hs : D 4 (30 * r + i) = 0
  · rw [if_neg (fun z => z hs), e1 hs]
    exact ⟨_, rfl, fun h => absurd rfl h, fun _ => ⟨rfl, rfl⟩⟩
  · rw [if_pos hs]
    obtain ⟨q, h2, h1⟩ := e2 hs
    rw [h2]
    refine ⟨_, rfl, fun _ => ⟨q, rfl, h1.1, by rw [h1.2.1], rfl⟩, fun h => by cases h⟩
theorem c_LM_deps_bad (C : cW M b n D) {v w : Int32} (hk : ¬ (0 ≤ v ∧ v < nI n ∧ 0 ≤ w ∧ w < nI (6 * n))) : EX eL X_LM_deps 0 [some (.inr (some b)), some (.inl v), some (.inl w), none] [] M (fun x N => x = some (.inl (-1)) ∧ N = M) := by
  refine sg_LM_deps_0 ⟨s_kLM C.2.2.1, EX.mono (c_LM_orderAt_bad C hk) fun x N hv => ?_⟩
  obtain ⟨rfl, rfl⟩ := hv
  exact ⟨_, rfl, fun h => absurd rfl h, fun _ => ⟨rfl, rfl⟩⟩
theorem c_LM_deps_ok (C : cW M b n D) (hr : r < n) (hi : i < 6 * n) : EX eL X_LM_deps 0 [some (.inr (some b)), some (.inl (nI r)), some (.inl (nI i)), none] [] M (fun x N => x = some (.inl (if ¬ D 4 (30 * r + i) = 0 then D 8 (30 * r + i) else (-1))) ∧ N = M) := by
  refine sg_LM_deps_0 ⟨s_kLM C.2.2.1, EX.mono (c_LM_orderAt_ok C hr hi) fun x N hv => ?_⟩
  obtain ⟨rfl, rfl⟩ := hv
  obtain ⟨-, -, -, -, -, e1, e2⟩ := C.2.2.2.1 r i hr hi
  by_cases hs : D 4 (30 * r + i) = 0
  · rw [if_neg (fun z => z hs), e1 hs]
    exact ⟨_, rfl, fun h => absurd rfl h, fun _ => ⟨rfl, rfl⟩⟩
  · rw [if_pos hs]
    obtain ⟨q, h2, h1⟩ := e2 hs
    rw [h2]
    refine ⟨_, rfl, fun _ => ⟨q, rfl, h1.1, by rw [h1.2.2.1], rfl⟩, fun h => by cases h⟩
theorem c_LM_result_bad (C : cW M b n D) {v w : Int32} (hk : ¬ (0 ≤ v ∧ v < nI n ∧ 0 ≤ w ∧ w < nI (6 * n))) : EX eL X_LM_result 0 [some (.inr (some b)), some (.inl v), some (.inl w), none] [] M (fun x N => x = some (.inl 0) ∧ N = M) := by
  refine sg_LM_result_0 ⟨s_kLM C.2.2.1, EX.mono (c_LM_entryAt_bad C hk) fun x N hv => ?_⟩
  obtain ⟨rfl, rfl⟩ := hv
  exact ⟨_, rfl, fun _ => ⟨rfl, rfl⟩, fun h => absurd rfl h⟩
theorem c_LM_result_ok (C : cW M b n D) (hr : r < n) (hi : i < 6 * n) : EX eL X_LM_result 0 [some (.inr (some b)), some (.inl (nI r)), some (.inl (nI i)), none] [] M (fun x N => x = some (.inl (if D 4 (30 * r + i) = 4 then D 12 (30 * r + i) else 0)) ∧ N = M) := by
  refine sg_LM_result_0 ⟨s_kLM C.2.2.1, EX.mono (c_LM_entryAt_ok C hr hi) fun x N hv => ?_⟩
  obtain ⟨rfl, rfl⟩ := hv
  have E := C.2.2.2.1 r i hr hi
  refine ⟨_, rfl, (fun h => by cases h), fun _ => ⟨_, rfl, s_kEnt C.2.2.1 hr hi, fun h => ?_, fun h => ?_⟩⟩
  · rw [E.1] at h
    rw [if_pos h, E.2.2.2.1]
    exact ⟨rfl, rfl⟩
  · rw [E.1] at h
    rw [if_neg h]
    exact ⟨rfl, rfl⟩
theorem c_LM_place_bad (C : cW M b n D) {v w : Int32} (hk : ¬ (0 ≤ v ∧ v < nI n ∧ 0 ≤ w ∧ w < nI (6 * n))) : EX eL X_LM_place 0 [some (.inr (some b)), some (.inl v), some (.inl w), none] [] M (fun x N => x = some (.inl (-1)) ∧ N = M) := by
  refine sg_LM_place_0 ⟨s_kLM C.2.2.1, EX.mono (c_LM_entryAt_bad C hk) fun x N hv => ?_⟩
  obtain ⟨rfl, rfl⟩ := hv
  exact ⟨_, rfl, fun _ => ⟨rfl, rfl⟩, fun h => absurd rfl h⟩
theorem c_LM_place_ok (C : cW M b n D) (hr : r < n) (hi : i < 6 * n) : EX eL X_LM_place 0 [some (.inr (some b)), some (.inl (nI r)), some (.inl (nI i)), none] [] M (fun x N => x = some (.inl (if D 4 (30 * r + i) = 4 then D 11 (30 * r + i) else (-1))) ∧ N = M) := by
  refine sg_LM_place_0 ⟨s_kLM C.2.2.1, EX.mono (c_LM_entryAt_ok C hr hi) fun x N hv => ?_⟩
  obtain ⟨rfl, rfl⟩ := hv
  have E := C.2.2.2.1 r i hr hi
  refine ⟨_, rfl, (fun h => by cases h), fun _ => ⟨_, rfl, s_kEnt C.2.2.1 hr hi, fun h => ?_, fun h => ?_⟩⟩
  · rw [E.1] at h
    rw [if_pos h, E.2.2.2.2.1]
    exact ⟨rfl, rfl⟩
  · rw [E.1] at h
    rw [if_neg h]
    exact ⟨rfl, rfl⟩
theorem c_LM_value_bad (C : cW M b n D) {v w : Int32} (hk : ¬ (0 ≤ v ∧ v < nI n ∧ 0 ≤ w ∧ w < 4)) : EX eL X_LM_value 0 [some (.inr (some b)), some (.inl v), some (.inl w)] [] M (fun x N => x = some (.inl 0) ∧ N = M) := by
  have S := C.2.2.1
  refine sg_LM_value_0 ⟨s_kLM S, EX.mono (c_LM_isReplica S) fun x N hv => ?_⟩
  obtain ⟨rfl, rfl⟩ := hv
  refine ⟨_, rfl, fun _ => ⟨rfl, rfl⟩, fun h => ⟨s_kLM S, EX.mono c_LM_isKey fun x N hv => ?_⟩⟩
  obtain ⟨rfl, rfl⟩ := hv
  refine ⟨_, rfl, fun _ => ⟨rfl, rfl⟩, fun h2 => ?_⟩
  have h9 := b01_1 h
  have h8 := b01_1 h2
  rw [decide_eq_true_eq] at h9 h8
  exact absurd ⟨h9.1, h9.2, h8.1, h8.2⟩ hk
theorem c_LM_value_ok (C : cW M b n D) {key : Nat} (hr : r < n) (hk : key < 4) : EX eL X_LM_value 0 [some (.inr (some b)), some (.inl (nI r)), some (.inl (nI key))] [] M (fun x N => x = some (.inl (D 2 (4 * r + key))) ∧ N = M) := by
  have S := C.2.2.1
  have h5 := C.n5
  refine sg_LM_value_0 ⟨s_kLM S, EX.mono (c_LM_isReplica S) fun x N hv => ?_⟩
  obtain ⟨rfl, rfl⟩ := hv
  refine ⟨_, rfl, fun h => absurd h (b01t ⟨nI_pos' (by omega), (nlt (by omega) (by omega)).mpr hr⟩), fun _ => ⟨s_kLM S, EX.mono c_LM_isKey fun x N hv => ?_⟩⟩
  obtain ⟨rfl, rfl⟩ := hv
  refine ⟨_, rfl, fun h => absurd h (b01t ⟨nI_pos' (by omega), (nlt (a := key) (b := 4) (by omega) (by decide)).mpr hk⟩), fun _ => ?_⟩
  refine ⟨s_kLM S, _, s_reps S, s_kReps S, ?_, _, ?_, s_kRp S hr, _, s_sto S hr, s_kSto S hr, _, s_vals S hr, s_kVals S hr, ?_, ?_⟩
  · rw [s_lReps S]; exact vin hr (by omega)
  · rw [cl (by omega)]; exact s_rep S hr
  · rw [s_lVals S hr]; exact vin hk (by decide)
  · rw [cl (by omega), (C.2.2.2.2.2.2.2.2.1 r hr).1 key hk]; exact ⟨rfl, rfl⟩
theorem c_LM_waiting (C : cW M b n D) : EX eL X_LM_waiting 0 [some (.inr (some b))] [] M (fun x N => x = some (.inl (D 1666 0)) ∧ N = M) := by
  have S := C.2.2.1
  exact sg_LM_waiting_0 ⟨s_kLM S, _, s_net S, s_kNet S, by rw [C.2.2.2.2.2.2.2.1.1], rfl⟩
theorem c_LM_lost (C : cW M b n D) : EX eL X_LM_lost 0 [some (.inr (some b))] [] M (fun x N => x = some (.inl (D 1667 0)) ∧ N = M) := by
  have S := C.2.2.1
  exact sg_LM_lost_0 ⟨s_kLM S, _, s_net S, s_kNet S, by rw [C.2.2.2.2.2.2.2.1.2.1], rfl⟩
theorem c_Net_at_bad (C : cW M b n D) {v : Int32} (hv : v < 0 ∨ ¬ v < D 1666 0) : EX eL X_Net_at 0 [some (.inr (some (b + 1))), some (.inl v)] [] M (fun x N => x = some (.inr none) ∧ N = M) := by
  have S := C.2.2.1
  refine sg_Net_at_0 ⟨fun _ => ⟨rfl, rfl⟩, fun h => ⟨s_kNet S, fun _ => ⟨rfl, rfl⟩, fun h2 => ?_⟩⟩
  rw [C.2.2.2.2.2.2.2.1.1] at h2
  rcases hv with hv | hv
  · exact absurd hv h
  · exact absurd (Int32.not_le.mp h2) hv
theorem c_Net_at_ok (C : cW M b n D) {u k : Nat} (hu : D 1666 0 = nI u) (h40 : u ≤ 40) (hk : k < u) : EX eL X_Net_at 0 [some (.inr (some (b + 1))), some (.inl (nI k))] [] M (fun x N => x = some (.inr (mR M 102 (b + 2) k)) ∧ N = M) := by
  have S := C.2.2.1
  refine sg_Net_at_0 ⟨fun h => absurd h (nI_pos (by omega)), fun _ => ⟨s_kNet S, fun h => ?_, fun _ => ?_⟩⟩
  · rw [C.2.2.2.2.2.2.2.1.1, hu, nle (by omega) (by omega)] at h; omega
  · refine ⟨_, s_line S, s_kLine S, ?_, ?_⟩
    · rw [s_lLine S]; exact vin (by omega) (by decide)
    · rw [cl (by omega)]; exact ⟨rfl, rfl⟩
theorem c_LM_message_bad (C : cW M b n D) {v : Int32} (hv : v < 0 ∨ ¬ v < D 1666 0) : EX eL X_LM_message 0 [some (.inr (some b)), some (.inl v), none] [] M (fun x N => x = some (.inl (-1)) ∧ N = M) := by
  have S := C.2.2.1
  refine sg_LM_message_0 ⟨s_kLM S, _, s_net S, s_kNet S, EX.mono (c_Net_at_bad C hv) fun x N hv => ?_⟩
  obtain ⟨rfl, rfl⟩ := hv
  exact ⟨_, rfl, fun h => absurd rfl h, fun _ => ⟨rfl, rfl⟩⟩
theorem c_LM_message_ok (C : cW M b n D) {u k : Nat} (hu : D 1666 0 = nI u) (h40 : u ≤ 40) (hk : k < u) : EX eL X_LM_message 0 [some (.inr (some b)), some (.inl (nI k)), none] [] M (fun w N => w = some (.inl (D 24 (11 * k) + 8 * D 24 (11 * k + 1) + 64 * D 24 (11 * k + 2) + 512 * D 24 (11 * k + 3))) ∧ N = M) := by
  have S := C.2.2.1
  have hg : g_un D = u := by unfold g_un; rw [hu]; exact cl (by omega)
  obtain ⟨q, h1, h2, h3, h4, h5, h6, -⟩ := C.2.2.2.2.2.2.2.1.2.2 k (by rw [hg]; exact hk)
  refine sg_LM_message_0 ⟨s_kLM S, _, s_net S, s_kNet S, EX.mono (c_Net_at_ok C hu h40 hk) fun x N hv => ?_⟩
  obtain ⟨rfl, rfl⟩ := hv
  rw [h1]
  exact ⟨_, rfl, fun _ => ⟨q, rfl, h2, by rw [h3, h4, h5, h6]; rfl, rfl⟩, fun h => by cases h⟩
end CC2
