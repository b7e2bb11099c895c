section SEND
variable {c : Nat} {M N : me_M} {b n r i : Nat} {D E : me_D}
/-- what the reference writes of a message -/
def gK (D : me_D) (kind : Int32) (fr to i : Nat) (bb : Int32) (j : Nat) : Int32 := match j with
  | 0 => kind
  | 1 => nI fr
  | 2 => nI to
  | 3 => nI i
  | 4 => bb
  | 5 => D 5 (30 * fr + i)
  | 6 => D 6 (30 * fr + i)
  | 7 => D 7 (30 * fr + i)
  | 8 => D 8 (30 * fr + i)
  | 9 => D 4 (30 * fr + i)
  | _ => D 10 (30 * fr + i)
theorem MsgOK.congr {q : Nat} {K K' : Nat → Int32} (h : ∀ j, j < 11 → K' j = K j) (e : MsgOK M q K) : MsgOK M q K' := by
  unfold MsgOK at e ⊢
  rw [h 0 (by decide), h 1 (by decide), h 2 (by decide), h 3 (by decide), h 4 (by decide), h 5 (by decide), h 6 (by decide), h 7 (by decide), h 8 (by decide), h 9 (by decide), h 10 (by decide)]
  exact e
theorem g_mail_old {u x : Nat} {kind fr to i bb : Int32} {a : Nat} (h : x < 11 * u) : g_mail D u kind fr to i bb a 24 x = D 24 x := by
  unfold g_mail
  simp (disch := omega) only [dU_nei]
theorem g_mail_new {u fr to i : Nat} {kind bb : Int32} : ∀ j, j < 11 → g_mail D u kind (nI fr) (nI to) (nI i) bb (30 * fr + i) 24 (11 * u + j) = gK D kind fr to i bb j := by
  intro j hj
  rcases (show j = 0 ∨ j = 1 ∨ j = 2 ∨ j = 3 ∨ j = 4 ∨ j = 5 ∨ j = 6 ∨ j = 7 ∨ j = 8 ∨ j = 9 ∨ j = 10 by omega) with rfl | rfl | rfl | rfl | rfl | rfl | rfl | rfl | rfl | rfl | rfl <;> unfold g_mail gK <;> simp (disch := omega) only [dU_nei, dU_eq, Nat.add_zero]
theorem g_un_of {u : Nat} (hu : D 1666 0 = nI u) (h : u ≤ 40) : g_un D = u := by unfold g_un; rw [hu]; exact cl (by omega)
theorem c_Net_send (C : cW M b n D) (u40 : uOK D) {q fr' to : Nat} {kind bb : Int32} (hm : MsgOK M q (gK D kind fr' to i bb)) : EX eL X_Net_send 0 [some (.inr (some (b + 1))), some (.inr (some q))] [] M (fun x N => x = none ∧ cW N b n (g_send D kind fr' to i bb) ∧ fr (pNet b) 0 M N) := by
  have S := C.sk
  obtain ⟨u, hu, h40⟩ := u40
  have hg := g_un_of hu h40
  have hnet := C.net
  have eu : mI M 1065 (b + 1) 0 = nI u := hnet.1.trans hu
  have l1 := C.w.lt (q := b + 1) (by rw [s_kNet S]; decide)
  have l2 := C.w.lt (q := b + 2) (by rw [s_kLine S]; decide)
  refine sg_Net_send_0 ⟨s_kNet S, fun h => ?_, fun h => ?_⟩
  · rw [eu] at h
    have hlt : u < 40 := (nlt (a := u) (b := 40) (by omega) (by decide)).mp h
    refine ⟨_, s_line S, s_kLine S, ?_, q, rfl, hm.1, ?_⟩
    · rw [eu, s_lLine S]; exact vin hlt (by decide)
    rintro _ rfl _ rfl
    rw [mI_SetR, eu, cl (by omega), p1]
    have hf : fr (pNet b) 0 M (mSetI (mSetR M 102 (b + 2) u (some q)) 1065 (b + 1) 0 (nI (u + 1))) := ((fr.refl _ M).setR (fun _ => Or.inr (Or.inr ⟨rfl, rfl⟩))).setI (fun _ => Or.inl ⟨rfl, rfl⟩)
    have hs : g_send D kind fr' to i bb = dU (g_mail D u kind (nI fr') (nI to) (nI i) bb (30 * fr' + i)) 1666 0 (nI (u + 1)) := by
      unfold g_send
      rw [if_neg, hg, hu, p1]
      rw [hu]
      intro z
      have := (neq (a := u) (b := 40) (by omega) (by decide)).mp z
      omega
    have hgu : g_un (g_send D kind fr' to i bb) = u + 1 := g_un_of (by rw [hs, dU_eq]) (by omega)
    refine ⟨rfl, C.netc hf ((C.w.setR l2).setI l1) (fun j x h1 h2 h3 => g_send_ne h1 h2 h3) ⟨?_, ?_, fun k hk => ?_⟩, hf⟩
    · rw [hs, dU_eq, mI_SetI, if_pos ⟨rfl, rfl, rfl⟩]
    · rw [hs, dU_ne _ (by decide), g_mail_ne (by decide), mI_SetI, if_neg (fun z => absurd z.1 (by decide)), mI_SetR]
      exact hnet.2.1
    · rw [hgu] at hk
      by_cases hku : k = u
      · subst hku
        refine ⟨q, by rw [mR_SetI, mR_SetR, if_pos ⟨rfl, rfl, rfl⟩], (MsgOK.fr hf pNet_mut.imm C.w hm).congr fun j hj => ?_⟩
        rw [hs, dU_ne _ (by decide)]
        exact g_mail_new j hj
      · obtain ⟨p, a1, a2⟩ := hnet.2.2 k (by omega)
        refine ⟨p, ?_, (MsgOK.fr hf pNet_mut.imm C.w a2).congr fun j hj => ?_⟩
        · rw [mR_SetI, mR_SetR, if_neg (fun z => hku z.2.2)]; exact a1
        · rw [hs, dU_ne _ (by decide)]
          exact g_mail_old (by omega)
  · rw [eu] at h
    have h40' : u = 40 := by
      have : ¬ u < 40 := fun z => h ((nlt (a := u) (b := 40) (by omega) (by decide)).mpr z)
      omega
    subst h40'
    rintro _ rfl
    have hf : fr (pNet b) 0 M (mSetI M 1066 (b + 1) 0 (mI M 1066 (b + 1) 0 + 1)) := (fr.refl _ M).setI (fun _ => Or.inr (Or.inl ⟨rfl, rfl⟩))
    have hs : g_send D kind fr' to i bb = dU D 1667 0 (D 1667 0 + 1) := by
      unfold g_send
      rw [if_pos (by rw [hu]; rfl)]
    have hgu : g_un (g_send D kind fr' to i bb) = g_un D := by unfold g_un; rw [hs, dU_ne _ (by decide)]
    refine ⟨rfl, C.netc hf (C.w.setI l1) (fun j x h1 h2 h3 => g_send_ne h1 h2 h3) ⟨?_, ?_, fun k hk => ?_⟩, hf⟩
    · rw [hs, dU_ne _ (by decide), mI_SetI, if_neg (fun z => absurd z.1 (by decide))]; exact hnet.1
    · rw [hs, dU_eq, mI_SetI, if_pos ⟨rfl, rfl, rfl⟩, hnet.2.1]
    · rw [hgu] at hk
      obtain ⟨p, a1, a2⟩ := hnet.2.2 k hk
      refine ⟨p, a1, (MsgOK.fr hf pNet_mut.imm C.w a2).congr fun j hj => ?_⟩
      rw [hs, dU_ne _ (by decide)]
end SEND
