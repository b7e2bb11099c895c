section LAW2
variable {M N : me_M} {b n c z s : Nat} {D E : me_D} {bS L : Nat} {xs : Nat → Int32}
theorem lt5 : ∀ L, L < 5 → nI L - 5 < 0 := by decide +kernel
theorem law_end {p : Nat} (hL : L ≤ 2561) (hp : p ≤ 5000) (h : L < p + 5) : Int32.ofNat L - 5 < nI p := by
  rw [oN]
  rcases Nat.lt_or_ge L 5 with h5 | h5
  · exact Int32.lt_of_lt_of_le (lt5 L h5) (nI_pos' (by omega))
  · rw [show (5 : Int32) = nI 5 from rfl, nI_sub h5, nlt (by omega) (by omega)]
    omega
theorem law_go {p : Nat} (hL : L ≤ 2561) (hp : p ≤ 5000) (h : ¬ L < p + 5) : ¬ Int32.ofNat L - 5 < nI p := by
  rw [oN, show (5 : Int32) = nI 5 from rfl, nI_sub (by omega), nlt (by omega) (by omega)]
  omega
theorem next5 (c : Nat) : nI (1 + 5 * c) + Int32.ofInt 5 = nI (1 + 5 * (c + 1)) := by
  rw [show Int32.ofInt 5 = nI 5 from rfl, nI_add, show 1 + 5 * c + 5 = 1 + 5 * (c + 1) by omega]
def lQ (z s b n : Nat) : Option me_V → me_M → Prop := fun x N => x = some (.inl 1) ∧ ∃ c D, c ≤ 512 ∧ LI z s N b n c D
theorem law_loop (hL : L ≤ 2561) : ∀ t c M D, c ≤ 512 → LI z s M b n c D → L < 1 + 5 * c + 5 * t + 5 → EX eL (X_Law_law bS L xs) 28 [some (.inr (some bS)), some (.inr (some b)), some (.inr (some (mdA b n))), some (.inl (nI (1 + 5 * c)))] [] M (lQ z s b n) := by
  intro t
  induction t with
  | zero =>
    intro c M D hc h ht
    exact sg_Law_law_28 ⟨fun _ => ⟨rfl, c, D, hc, h⟩, fun hno => absurd (law_end hL (by omega) (by omega)) hno⟩
  | succ t ih =>
    intro c M D hc h ht
    by_cases hl : L < 1 + 5 * c + 5
    · exact sg_Law_law_28 ⟨fun _ => ⟨rfl, c, D, hc, h⟩, fun hno => absurd (law_end hL (by omega) hl) hno⟩
    · have c9 : c ≤ 511 := by omega
      have go : ∀ N2 x3, (∃ E, LI z s N2 b n (c + 1) E) → x3 = nI (1 + 5 * c) + Int32.ofInt 5 → EX eL (X_Law_law bS L xs) 28 [some (.inr (some bS)), some (.inr (some b)), some (.inr (some (mdA b n))), some (.inl x3)] [] N2 (lQ z s b n) := by
        intro N2 x3 hE e
        obtain ⟨E, hE⟩ := hE
        rw [e, next5]
        exact ih (c + 1) N2 E (by omega) hE (by omega)
      have w0 : vp_in (nI (1 + 5 * c)) L := vin (by omega) (by omega)
      have w1 : vp_in (nI (1 + 5 * c) + 1) L := by rw [p1]; exact vin (by omega) (by omega)
      have w2 : vp_in (nI (1 + 5 * c) + 2) L := by rw [p2]; exact vin (by omega) (by omega)
      have w3 : vp_in (nI (1 + 5 * c) + 3) L := by rw [p3]; exact vin (by omega) (by omega)
      have w4 : vp_in (nI (1 + 5 * c) + 4) L := by rw [p4]; exact vin (by omega) (by omega)
      have kL := s_kLM h.1.sk
      refine sg_Law_law_28 ⟨fun hz => absurd hz (law_go hL (by omega) hl), fun _ => ⟨w0, ?_⟩⟩
      refine ⟨fun _ x2 e => go M x2 ⟨D, h.stay⟩ e, ?_⟩
      refine ⟨fun _ => ⟨w1, w2, w3, fun h0 => ⟨w4, b, rfl, kL, ?_⟩, fun h0 => ⟨w4, b, rfl, kL, ?_⟩⟩, ?_⟩
      · refine EX.mono (bo_propose h (by omega)) fun r N hv => ?_
        obtain ⟨x, rfl, hk, hR⟩ := hv
        refine ⟨x, rfl, w1, w2, w3, fun _ => ⟨w4, _, rfl, hk, EX.mono hR fun r2 N2 hv => ?_⟩, fun hno => absurd h0 hno⟩
        obtain ⟨rfl, hE⟩ := hv
        exact ⟨x, rfl, fun _ x3 e => go N2 x3 hE e, fun hn => absurd rfl hn⟩
      · refine EX.mono (bo_propose h (by omega)) fun r N hv => ?_
        obtain ⟨x, rfl, hk, hR⟩ := hv
        refine ⟨x, rfl, w1, w2, w3, fun hno => absurd hno h0, fun _ => ⟨w4, _, rfl, hk, EX.mono hR fun r2 N2 hv => ?_⟩⟩
        obtain ⟨rfl, hE⟩ := hv
        exact ⟨x, rfl, fun _ x3 e => go N2 x3 hE e, fun hn => absurd rfl hn⟩
      refine ⟨fun _ => ⟨w1, w2, b, rfl, kL, EX.mono (bo_prepare h (by omega)) fun r N hv => ?_⟩, ?_⟩
      · obtain ⟨x, rfl, hk, hR⟩ := hv
        refine ⟨x, rfl, w1, w2, _, rfl, hk, EX.mono hR fun r2 N2 hv => ?_⟩
        obtain ⟨rfl, hE⟩ := hv
        exact ⟨x, rfl, fun _ x3 e => go N2 x3 hE e, fun hn => absurd rfl hn⟩
      refine ⟨fun _ => ⟨w1, b, rfl, kL, EX.mono (bo_deliver h (by omega)) fun r N hv => ?_⟩, ?_⟩
      · obtain ⟨x, rfl, hk, hR⟩ := hv
        refine ⟨x, rfl, w1, _, rfl, hk, EX.mono hR fun r2 N2 hv => ?_⟩
        obtain ⟨rfl, hE⟩ := hv
        exact ⟨x, rfl, fun _ x3 e => go N2 x3 hE e, fun hn => absurd rfl hn⟩
      refine ⟨fun _ => ⟨w1, b, rfl, kL, EX.mono (bo_lose h) fun r N hv => ?_⟩, ?_⟩
      · obtain ⟨x, rfl, hk, hR⟩ := hv
        refine ⟨x, rfl, w1, _, rfl, hk, EX.mono hR fun r2 N2 hv => ?_⟩
        obtain ⟨rfl, hE⟩ := hv
        exact ⟨x, rfl, fun _ x3 e => go N2 x3 hE e, fun hn => absurd rfl hn⟩
      refine ⟨fun _ => ⟨w1, b, rfl, kL, EX.mono (bo_crash h) fun r N hv => ?_⟩, ?_⟩
      · obtain ⟨x, rfl, hk, hR⟩ := hv
        refine ⟨x, rfl, w1, _, rfl, hk, EX.mono hR fun r2 N2 hv => ?_⟩
        obtain ⟨rfl, hE⟩ := hv
        exact ⟨x, rfl, fun _ x3 e => go N2 x3 hE e, fun hn => absurd rfl hn⟩
      refine ⟨fun _ => ⟨w1, b, rfl, kL, EX.mono (bo_execute h) fun r N hv => ?_⟩, ?_⟩
      · obtain ⟨x, rfl, hk, hR⟩ := hv
        refine ⟨x, rfl, w1, _, rfl, hk, EX.mono hR fun r2 N2 hv => ?_⟩
        obtain ⟨rfl, hE⟩ := hv
        exact ⟨x, rfl, fun _ x3 e => go N2 x3 hE e, fun hn => absurd rfl hn⟩
      refine ⟨fun _ => ⟨b, rfl, kL, EX.mono (bo_waiting h) fun r N hv => ?_⟩, ?_⟩
      · obtain ⟨x, rfl, hk, hR⟩ := hv
        refine ⟨x, rfl, _, rfl, hk, EX.mono hR fun r2 N2 hv => ?_⟩
        obtain ⟨rfl, hE⟩ := hv
        exact ⟨x, rfl, fun _ x3 e => go N2 x3 hE e, fun hn => absurd rfl hn⟩
      refine ⟨fun _ => ⟨w1, b, rfl, kL, EX.mono (bo_message h) fun r N hv => ?_⟩, ?_⟩
      · obtain ⟨x, rfl, hk, hR⟩ := hv
        refine ⟨x, rfl, w1, _, rfl, hk, EX.mono hR fun r2 N2 hv => ?_⟩
        obtain ⟨rfl, hE⟩ := hv
        exact ⟨x, rfl, fun _ x3 e => go N2 x3 hE e, fun hn => absurd rfl hn⟩
      refine ⟨fun _ => ⟨b, rfl, kL, EX.mono (bo_lost h) fun r N hv => ?_⟩, ?_⟩
      · obtain ⟨x, rfl, hk, hR⟩ := hv
        refine ⟨x, rfl, _, rfl, hk, EX.mono hR fun r2 N2 hv => ?_⟩
        obtain ⟨rfl, hE⟩ := hv
        exact ⟨x, rfl, fun _ x3 e => go N2 x3 hE e, fun hn => absurd rfl hn⟩
      refine ⟨fun _ => ⟨w1, w2, b, rfl, kL, EX.mono (bo_state h) fun r N hv => ?_⟩, ?_⟩
      · obtain ⟨x, rfl, hk, hR⟩ := hv
        refine ⟨x, rfl, w1, w2, _, rfl, hk, EX.mono hR fun r2 N2 hv => ?_⟩
        obtain ⟨rfl, hE⟩ := hv
        exact ⟨x, rfl, fun _ x3 e => go N2 x3 hE e, fun hn => absurd rfl hn⟩
      refine ⟨fun _ => ⟨w1, w2, b, rfl, kL, EX.mono (bo_command h) fun r N hv => ?_⟩, ?_⟩
      · obtain ⟨x, rfl, hk, hR⟩ := hv
        refine ⟨x, rfl, w1, w2, _, rfl, hk, EX.mono hR fun r2 N2 hv => ?_⟩
        obtain ⟨rfl, hE⟩ := hv
        exact ⟨x, rfl, fun _ x3 e => go N2 x3 hE e, fun hn => absurd rfl hn⟩
      refine ⟨fun _ => ⟨w1, w2, b, rfl, kL, EX.mono (bo_seq h) fun r N hv => ?_⟩, ?_⟩
      · obtain ⟨x, rfl, hk, hR⟩ := hv
        refine ⟨x, rfl, w1, w2, _, rfl, hk, EX.mono hR fun r2 N2 hv => ?_⟩
        obtain ⟨rfl, hE⟩ := hv
        exact ⟨x, rfl, fun _ x3 e => go N2 x3 hE e, fun hn => absurd rfl hn⟩
      refine ⟨fun _ => ⟨w1, w2, b, rfl, kL, EX.mono (bo_deps h) fun r N hv => ?_⟩, ?_⟩
      · obtain ⟨x, rfl, hk, hR⟩ := hv
        refine ⟨x, rfl, w1, w2, _, rfl, hk, EX.mono hR fun r2 N2 hv => ?_⟩
        obtain ⟨rfl, hE⟩ := hv
        exact ⟨x, rfl, fun _ x3 e => go N2 x3 hE e, fun hn => absurd rfl hn⟩
      refine ⟨fun _ => ⟨w1, w2, b, rfl, kL, EX.mono (bo_promised h) fun r N hv => ?_⟩, ?_⟩
      · obtain ⟨x, rfl, hk, hR⟩ := hv
        refine ⟨x, rfl, w1, w2, _, rfl, hk, EX.mono hR fun r2 N2 hv => ?_⟩
        obtain ⟨rfl, hE⟩ := hv
        exact ⟨x, rfl, fun _ x3 e => go N2 x3 hE e, fun hn => absurd rfl hn⟩
      refine ⟨fun _ => ⟨w1, w2, b, rfl, kL, EX.mono (bo_result h) fun r N hv => ?_⟩, ?_⟩
      · obtain ⟨x, rfl, hk, hR⟩ := hv
        refine ⟨x, rfl, w1, w2, _, rfl, hk, EX.mono hR fun r2 N2 hv => ?_⟩
        obtain ⟨rfl, hE⟩ := hv
        exact ⟨x, rfl, fun _ x3 e => go N2 x3 hE e, fun hn => absurd rfl hn⟩
      refine ⟨fun _ => ⟨w1, w2, b, rfl, kL, EX.mono (bo_place h) fun r N hv => ?_⟩, ?_⟩
      · obtain ⟨x, rfl, hk, hR⟩ := hv
        refine ⟨x, rfl, w1, w2, _, rfl, hk, EX.mono hR fun r2 N2 hv => ?_⟩
        obtain ⟨rfl, hE⟩ := hv
        exact ⟨x, rfl, fun _ x3 e => go N2 x3 hE e, fun hn => absurd rfl hn⟩
      intro _
      refine ⟨w1, w2, b, rfl, kL, EX.mono (bo_value h) fun r N hv => ?_⟩
      obtain ⟨x, rfl, hk, hR⟩ := hv
      refine ⟨x, rfl, w1, w2, _, rfl, hk, EX.mono hR fun r2 N2 hv => ?_⟩
      obtain ⟨rfl, hE⟩ := hv
      exact ⟨x, rfl, fun _ x3 e => go N2 x3 hE e, fun hn => absurd rfl hn⟩
def cell0 (L : Nat) (xs : Nat → Int32) : Int32 := if Int32.ofNat L ≤ 0 then 0 else xs (0 : Int32).toNatClampNeg
theorem c_Law_cell (hL : L ≤ 2561) : EX eL (X_Law_cell bS L xs) 0 [some (.inr (some bS)), some (.inl 0)] [] M (fun x N => x = some (.inl (cell0 L xs)) ∧ N = M) := by
  refine sg_Law_cell_0 ⟨fun h => ⟨by unfold cell0; rw [if_pos h], rfl⟩, fun h => ⟨?_, by unfold cell0; rw [if_neg h], rfl⟩⟩
  have h0 : 0 < L := Nat.pos_of_ne_zero fun z => h (by rw [z]; decide)
  exact vin (k := 0) h0 (by omega)
theorem law_all (hL : L ≤ 2561) (w : wf M) : EX eL (X_Law_law bS L xs) 0 [some (.inr (some bS)), none, none, none] [] M (fun x N => x = some (.inl 1) ∧ mSz N ≤ mSz M + 16000 ∧ mSl N ≤ mSl M + 200000) := by
  refine sg_Law_law_0 ?_
  intro q2 M1 e2 e1
  have hn : ∃ n, n = if 4 ≤ cell0 L xs then 5 else 3 := ⟨_, rfl⟩
  obtain ⟨n, hn⟩ := hn
  have hn35 : n = 3 ∨ n = 5 := by rw [hn]; split <;> simp
  have k1 : mKd M1 q2 = 1 := by rw [e1, mKd_New, if_pos e2]
  have s1 : mSz M1 = q2 + 1 := by rw [e1, mSz_New, e2]
  have w1 : wf M1 := by rw [e1]; exact w.new
  have t1 : mSl M1 = mSl M + 5 := by rw [e1, mSl_New]
  have z1 : zM M1 q2 := by
    intro k q i hk hq
    rw [e1]
    exact (w q (by omega)).2 k i
  refine EX.mono (c_Law_cell hL) fun r M4 hv => ?_
  obtain ⟨rfl, rfl⟩ := hv
  refine ⟨_, rfl, k1, EX.mono (c_LM_init hn w1 s1 k1 z1) fun r M8 hv => ?_⟩
  obtain ⟨rfl, I⟩ := hv
  refine ⟨rfl, ?_⟩
  intro q11 M10 e11 e10
  have s8 : mSz M8 = mdA q2 n := I.1
  rw [s8] at e11
  subst e11
  have k10 : mKd M10 (mdA q2 n) = 11 := by rw [e10, mKd_New, if_pos s8.symm]
  have s10 : mSz M10 = mdA q2 n + 1 := by rw [e10, mSz_New, s8]
  have w10 : wf M10 := by rw [e10]; exact I.2.1.new
  have t10 : mSl M10 = mSl M8 + 30 := by rw [e10, mSl_New]
  refine EX.mono (c_Law_cell hL) fun r M13 hv => ?_
  obtain ⟨rfl, rfl⟩ := hv
  refine ⟨_, rfl, k10, EX.mono (c_Md_init hn w10 s10 k10 (fun k i => by rw [e10]; exact ((I.2.1 _ (by omega)).2 k i).1)) fun r M17 hv => ?_⟩
  obtain ⟨rfl, F⟩ := hv
  refine ⟨rfl, ?_⟩
  have C := cW_start hn35 I F e10
  obtain ⟨f1, f2, f3, f4, f5, f6, f7⟩ := F
  have i3 := I.2.2.1
  have h : LI (mdA q2 n + 26) (mSl M + 18000) M17 q2 n 0 (D0 n) := ⟨C, f1, f2, dI0 hn35, by omega, by omega, by omega⟩
  refine EX.mono (law_loop (bS := bS) (xs := xs) hL L 0 M17 (D0 n) (by omega) h (by omega)) fun x N hv => ?_
  obtain ⟨rfl, c, D, hc, h⟩ := hv
  obtain ⟨-, -, -, -, -, h6, h7⟩ := h
  have hm : mdA q2 n ≤ q2 + 4 + 180 := by unfold mdA; rcases hn35 with rfl | rfl <;> omega
  exact ⟨rfl, by omega, by omega⟩
end LAW2
