section HAND1
variable {c : Nat} {M N : me_M} {b n r i : Nat} {D E : me_D}
def mdA (b n : Nat) : Nat := b + 4 + n * (6 * n + 6)
/-- what the class may change after its making -/
def pC (m : Nat) (k q : Nat) : Prop := mutK k = true ∧ (k = 100 → q < m)
theorem pC_mut {m : Nat} : mutP (pC m) := fun _ _ h => h.1
theorem fr.toC {P : Nat → Nat → Prop} {m d : Nat} (h : fr P c M N) (hP : mutP P) (h1 : ∀ q, P 100 q → q < m) (hd : c ≤ d) : fr (pC m) d M N := h.mono hd (fun k q _ z => ⟨hP k q z, fun hk => h1 q (by rw [← hk]; exact z)⟩)
theorem netC {m d : Nat} (h : fr (pNet b) c M N) (hd : c ≤ d) : fr (pC m) d M N := h.toC pNet_mut (fun q z => absurd z (pNet_no (by decide) (by decide) (by decide))) hd
def pE (e : Nat) (k q : Nat) : Prop := 1192 ≤ k ∧ k ≤ 1197 ∧ q = e
theorem pE_mut {e : Nat} : mutP (pE e) := fun k q z => by
  unfold mutK
  simp [z.1, z.2.1]
theorem entC {m d e : Nat} (h : fr (pE e) c M N) (hd : c ≤ d) : fr (pC m) d M N := h.toC pE_mut (fun q z => absurd z.1 (by decide)) hd
theorem nilC {m d : Nat} (h : fr (fun _ _ => False) c M N) (hd : c ≤ d) : fr (pC m) d M N := h.toC (fun _ _ z => z.elim) (fun _ z => z.elim) hd
theorem dU_out {j a jj x : Nat} {v : Int32} (h : ¬ (jj = j ∧ x = a)) : dU D j a v jj x = D jj x := if_neg h
/-- the entry is voted: state, order, promised and voted -/
theorem vote_fr {e : Nat} {s bb : Int32} {o : Option Nat} : fr (pE e) 0 M (mSetR (mSetI (mSetI (mSetI M 1194 e 0 bb) 1195 e 0 bb) 1192 e 0 s) 1193 e 0 o) :=
  ((((fr.refl _ M).setI (fun _ => ⟨by decide, by decide, rfl⟩)).setI (fun _ => ⟨by decide, by decide, rfl⟩)).setI (fun _ => ⟨by decide, by decide, rfl⟩)).setR (fun _ => ⟨by decide, by decide, rfl⟩)
theorem vote_wf (w : wf M) {e : Nat} (he : e < mSz M) {s bb : Int32} {o : Option Nat} : wf (mSetR (mSetI (mSetI (mSetI M 1194 e 0 bb) 1195 e 0 bb) 1192 e 0 s) 1193 e 0 o) := (((w.setI he).setI he).setI he).setR he
theorem become_fr {e : Nat} {s : Int32} {o : Option Nat} : fr (pE e) 0 M (mSetR (mSetI M 1192 e 0 s) 1193 e 0 o) := ((fr.refl _ M).setI (fun _ => ⟨by decide, by decide, rfl⟩)).setR (fun _ => ⟨by decide, by decide, rfl⟩)
theorem vote_cW (C : cW M b n D) (hr : r < n) (hi : i < 6 * n) {s bb cd vl sq dp : Int32} {p : Nat} (ho : OrdOK M p cd vl sq dp) (hs0 : ¬ s = 0) (hs4 : ¬ s = 4) (hd4 : ¬ D 4 (30 * r + i) = 4) (hE : ∀ j x, ¬ (4 ≤ j ∧ j ≤ 12 ∧ x = 30 * r + i) → E j x = D j x) (e1 : E 4 (30 * r + i) = s) (e2 : E 9 (30 * r + i) = bb) (e3 : E 10 (30 * r + i) = bb) (e4 : E 12 (30 * r + i) = D 12 (30 * r + i)) (e5 : E 11 (30 * r + i) = D 11 (30 * r + i)) (e6 : E 5 (30 * r + i) = cd) (e7 : E 6 (30 * r + i) = vl) (e8 : E 7 (30 * r + i) = sq) (e9 : E 8 (30 * r + i) = dp) :
    cW (mSetR (mSetI (mSetI (mSetI M 1194 (aR b n r + 2 + i) 0 bb) 1195 (aR b n r + 2 + i) 0 bb) 1192 (aR b n r + 2 + i) 0 s) 1193 (aR b n r + 2 + i) 0 (some p)) b n E := by
  have hl := C.w.lt (q := aR b n r + 2 + i) (by rw [s_kEnt C.sk hr hi]; decide)
  obtain ⟨f1, f2, f3, f4, f5, -, -⟩ := C.ent hr hi
  refine C.entc hr hi vote_fr (fun _ _ z => z) (vote_wf C.w hl) hE ⟨fun z => absurd (e1.symm.trans z) hs4, fun z => absurd z hd4⟩ ⟨?_, ?_, ?_, ?_, ?_, fun z => absurd (e1.symm.trans z) hs0, fun _ => ⟨p, ?_, ?_⟩⟩
  · rw [e1]; simp [mI_SetR, mI_SetI]
  · rw [e2]; simp [mI_SetR, mI_SetI]
  · rw [e3]; simp [mI_SetR, mI_SetI]
  · rw [e4, ← f4]; simp [mI_SetR, mI_SetI]
  · rw [e5, ← f5]; simp [mI_SetR, mI_SetI]
  · simp [mR_SetR]
  · rw [e6, e7, e8, e9]
    exact OrdOK.fr vote_fr (pE_mut.imm) C.w ho
theorem become_cW (C : cW M b n D) (hr : r < n) (hi : i < 6 * n) {s cd vl sq dp : Int32} {p : Nat} (ho : OrdOK M p cd vl sq dp) (hs0 : ¬ s = 0) (hs4 : ¬ s = 4) (hd4 : ¬ D 4 (30 * r + i) = 4) (hE : ∀ j x, ¬ (4 ≤ j ∧ j ≤ 12 ∧ x = 30 * r + i) → E j x = D j x) (e1 : E 4 (30 * r + i) = s) (e2 : E 9 (30 * r + i) = D 9 (30 * r + i)) (e3 : E 10 (30 * r + i) = D 10 (30 * r + i)) (e4 : E 12 (30 * r + i) = D 12 (30 * r + i)) (e5 : E 11 (30 * r + i) = D 11 (30 * r + i)) (e6 : E 5 (30 * r + i) = cd) (e7 : E 6 (30 * r + i) = vl) (e8 : E 7 (30 * r + i) = sq) (e9 : E 8 (30 * r + i) = dp) :
    cW (mSetR (mSetI M 1192 (aR b n r + 2 + i) 0 s) 1193 (aR b n r + 2 + i) 0 (some p)) b n E := by
  have hl := C.w.lt (q := aR b n r + 2 + i) (by rw [s_kEnt C.sk hr hi]; decide)
  obtain ⟨f1, f2, f3, f4, f5, -, -⟩ := C.ent hr hi
  refine C.entc hr hi become_fr (fun _ _ z => z) ((C.w.setI hl).setR hl) hE ⟨fun z => absurd (e1.symm.trans z) hs4, fun z => absurd z hd4⟩ ⟨?_, ?_, ?_, ?_, ?_, fun z => absurd (e1.symm.trans z) hs0, fun _ => ⟨p, ?_, ?_⟩⟩
  · rw [e1]; simp [mI_SetR, mI_SetI]
  · rw [e2, ← f2]; simp [mI_SetR, mI_SetI]
  · rw [e3, ← f3]; simp [mI_SetR, mI_SetI]
  · rw [e4, ← f4]; simp [mI_SetR, mI_SetI]
  · rw [e5, ← f5]; simp [mI_SetR, mI_SetI]
  · simp [mR_SetR]
  · rw [e6, e7, e8, e9]
    exact OrdOK.fr become_fr (pE_mut.imm) C.w ho
/-- the message that is being received, as both sides hold it -/
def gotOK (M : me_M) (q : Nat) (D : me_D) (n r fr i : Nat) : Prop := MsgOK M q (fun j => D 24 (440 + j)) ∧ D 24 441 = nI fr ∧ D 24 442 = nI r ∧ D 24 443 = nI i ∧ fr < n ∧ r < n ∧ i < 6 * n
theorem c_Rp_onAccept (C : cW M b n D) (u40 : uOK D) {q fr' : Nat} (G : gotOK M q D n r fr' i) (hk : D 24 440 = 2) (h3 : D 4 (30 * r + i) < 3) : EX eL X_Rp_onAccept 0 [some (.inr (some (aR b n r))), some (.inr (some q)), some (.inr (some (aR b n r + 2 + i)))] [] M (fun x N => x = none ∧ cW N b n (g_accept D r fr' i) ∧ fr (pC (mdA b n)) 9 M N) := by
  obtain ⟨⟨g0, g1, g2, g3, g4, g5, g6, g7⟩, k1, k2, k3, hf, hr, hi⟩ := G
  have S := C.sk
  have hb := g5 (show ¬ D 24 440 = 4 by rw [hk]; decide)
  obtain ⟨p, p1, p2⟩ := g6 (Or.inr (Or.inr (Or.inl hk)))
  have E0 := C.ent hr hi
  have d4 : ¬ D 4 (30 * r + i) = 4 := fun z => by rw [z] at h3; exact absurd h3 (by decide)
  refine sg_Rp_onAccept_0 ⟨q, rfl, g0, _, rfl, s_kEnt S hr hi, fun h => ?_, fun h => ?_⟩
  · rw [E0.2.1, hb] at h
    rw [p1, hb]
    refine EX.mono (c_En_vote (s_kEnt S hr hi)) fun x N hv => ?_
    obtain ⟨rfl, rfl⟩ := hv
    have C1 := vote_cW (E := g_settle (dU (dU D 9 (30 * r + i) (D 24 444)) 10 (30 * r + i) (D 24 444)) (30 * r + i) 2) (s := 2) (bb := D 24 444) C hr hi p2 (by decide) (by decide) d4 (fun j x hx => by unfold g_settle g_put; simp (disch := omega) only [dU_out])
      (by unfold g_settle g_put; simp (disch := omega) only [dU_ne, dU_eq]) (by unfold g_settle g_put; simp (disch := omega) only [dU_ne, dU_eq]) (by unfold g_settle g_put; simp (disch := omega) only [dU_ne, dU_eq]) (by unfold g_settle g_put; simp (disch := omega) only [dU_ne, dU_eq]) (by unfold g_settle g_put; simp (disch := omega) only [dU_ne, dU_eq]) (by unfold g_settle g_put; simp (disch := omega) only [dU_ne, dU_eq]) (by unfold g_settle g_put; simp (disch := omega) only [dU_ne, dU_eq]) (by unfold g_settle g_put; simp (disch := omega) only [dU_ne, dU_eq]) (by unfold g_settle g_put; simp (disch := omega) only [dU_ne, dU_eq])
    have hv := vote_fr (M := M) (e := aR b n r + 2 + i) (s := 2) (bb := D 24 444) (o := some p)
    have hlq := C.w.lt (q := q) (by rw [g0]; decide)
    refine ⟨rfl, s_kRp C1.sk hr, EX.mono (c_Rp_sendBack (q := q) (fr' := fr') (i := i) (bb := D 24 444) (b0 := D 24 444) C1 (u40.to ?_) hr ?_ ?_ ?_ ?_ (fun _ => rfl) (fun z => absurd z (by decide)) (fun z => absurd z (by decide))) fun x N hv2 => ?_⟩
    · rw [g_settle_ne (by decide) (by decide) (by decide) (by decide) (by decide), dU_ne _ (by decide), dU_ne _ (by decide)]
    · exact hv.kd C.w g0 (by decide)
    · rw [hv.i hlq (pE_mut.imm _ _ (by decide) (by decide)), g2]; exact k1
    · rw [hv.i hlq (pE_mut.imm _ _ (by decide) (by decide)), g4]; exact k3
    · rw [hv.i hlq (pE_mut.imm _ _ (by decide) (by decide)), hb]
    · obtain ⟨rfl, h1, h2⟩ := hv2
      refine ⟨rfl, rfl, ?_, ((entC hv (Nat.le_refl _)).trans (netC h2 (Nat.le_refl _))).mono (by omega) (fun _ _ _ z => z)⟩
      rw [g_accept, if_neg (Int32.not_lt.mpr h)]
      exact h1
  · rw [E0.2.1, hb] at h
    refine ⟨rfl, ?_, (fr.refl _ M).mono (by omega) (fun _ _ _ z => z)⟩
    rw [g_accept, if_pos (Int32.not_le.mp h)]
    exact C
end HAND1
