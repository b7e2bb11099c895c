def fK (ci k : Nat) : Nat := match ci with
  | 0 => (match k with | 0 => 0 | 1 => 0 | 2 => 2 | 3 => 2 | _ => 0)
  | 1 => (match k with | 0 => 2 | 1 => 0 | _ => 0)
  | 2 => (match k with | 0 => 0 | 1 => 0 | 2 => 0 | 3 => 2 | 4 => 2 | 5 => 2 | 6 => 2 | _ => 1)
  | 3 => (match k with | 0 => 0 | 1 => 2 | 2 => 0 | 3 => 0 | 4 => 0 | _ => 0)
  | 4 => (match k with | 0 => 2 | 1 => 2 | 2 => 0 | _ => 0)
  | 5 => (match k with | 0 => 0 | 1 => 1 | 2 => 2 | 3 => 0 | 4 => 0 | 5 => 1 | 6 => 0 | _ => 0)
  | 6 => (match k with | 0 => 0 | 1 => 0 | _ => 0)
  | 7 => (match k with | 0 => 2 | 1 => 0 | _ => 0)
  | 8 => (match k with | 0 => 0 | 1 => 0 | 2 => 2 | _ => 0)
  | 9 => (match k with | 0 => 0 | 1 => 0 | 2 => 0 | 3 => 0 | 4 => 0 | 5 => 2 | _ => 2)
  | 10 => (match k with | 0 => 0 | 1 => 0 | 2 => 0 | 3 => 2 | 4 => 2 | 5 => 2 | 6 => 2 | 7 => 2 | 8 => 2 | 9 => 2 | 10 => 2 | 11 => 2 | 12 => 2 | 13 => 2 | 14 => 2 | 15 => 2 | 16 => 2 | 17 => 2 | 18 => 2 | 19 => 2 | 20 => 2 | 21 => 2 | 22 => 2 | 23 => 2 | 24 => 2 | 25 => 2 | 26 => 0 | 27 => 0 | 28 => 2 | _ => 2)
  | _ => 0
def wW : List Cond := [.methodLinkNest "LeaderlessMap" 18 ⟨"LeaderlessMap$Network", "<init>", "()V"⟩ "LeaderlessMap", .methodLinkNest "LeaderlessMap$Replica" 31 ⟨"LeaderlessMap$Entry", "<init>", "()V"⟩ "LeaderlessMap", .arrayOver (.object R_Ms), .arrayOver (.object R_Rp), .arrayOver (.object R_En), .arrayOver (.object R_At), .arrayOver (.object R_Rt)]
def mG (B : Nat) (Dd : va_G) (cA : Nat → ClassId) : me_G := (B, Dd, me_cls, [(cA 0, .int), (cA 1, .boolean), (cA 2, .object R_Ms), (cA 3, .object R_Rp), (cA 4, .object R_En), (cA 5, .object R_At), (cA 6, .object R_Rt)], fK, wW)
section GG
variable {B : Nat} {Dd : va_G} {cA : Nat → ClassId}
theorem mG_NW : me_NW (mG B Dd cA) := by
  intro w hw
  have hw : w ∈ wW := hw
  simp only [wW, List.mem_cons, List.not_mem_nil, or_false] at hw
  rcases hw with h | h | h | h | h | h | h
  · exact Or.inl ⟨_, _, _, _, h⟩
  · exact Or.inl ⟨_, _, _, _, h⟩
  · exact Or.inr ⟨_, h⟩
  · exact Or.inr ⟨_, h⟩
  · exact Or.inr ⟨_, h⟩
  · exact Or.inr ⟨_, h⟩
  · exact Or.inr ⟨_, h⟩
theorem mG_CL : me_CL (mG B Dd cA) := by
  intro ci r h
  have h : me_cls[ci]? = some r := h
  match ci with
  | 0 =>
    cases h
    refine ⟨n_LM, t_LM, t_LM_ok, fun k hk => ?_⟩
    have hk : k < 5 := hk
    match k, hk with
    | 0, _ => exact Or.inl ⟨rfl, rfl⟩
    | 1, _ => exact Or.inl ⟨rfl, rfl⟩
    | 2, _ => exact Or.inr (Or.inr ⟨rfl, Or.inl ⟨_, rfl⟩⟩)
    | 3, _ => exact Or.inr (Or.inr ⟨rfl, Or.inr ⟨_, rfl⟩⟩)
    | 4, _ => exact Or.inl ⟨rfl, rfl⟩
    | (k + 5), hk => omega
  | 1 =>
    cases h
    refine ⟨n_Net, t_Net, t_Net_ok, fun k hk => ?_⟩
    have hk : k < 3 := hk
    match k, hk with
    | 0, _ => exact Or.inr (Or.inr ⟨rfl, Or.inr ⟨_, rfl⟩⟩)
    | 1, _ => exact Or.inl ⟨rfl, rfl⟩
    | 2, _ => exact Or.inl ⟨rfl, rfl⟩
    | (k + 3), hk => omega
  | 2 =>
    cases h
    refine ⟨n_Rp, t_Rp, t_Rp_ok, fun k hk => ?_⟩
    have hk : k < 8 := hk
    match k, hk with
    | 0, _ => exact Or.inl ⟨rfl, rfl⟩
    | 1, _ => exact Or.inl ⟨rfl, rfl⟩
    | 2, _ => exact Or.inl ⟨rfl, rfl⟩
    | 3, _ => exact Or.inr (Or.inr ⟨rfl, Or.inl ⟨_, rfl⟩⟩)
    | 4, _ => exact Or.inr (Or.inr ⟨rfl, Or.inr ⟨_, rfl⟩⟩)
    | 5, _ => exact Or.inr (Or.inr ⟨rfl, Or.inr ⟨_, rfl⟩⟩)
    | 6, _ => exact Or.inr (Or.inr ⟨rfl, Or.inl ⟨_, rfl⟩⟩)
    | 7, _ => exact Or.inr (Or.inl ⟨rfl, rfl⟩)
    | (k + 8), hk => omega
  | 3 =>
    cases h
    refine ⟨n_En, t_En, t_En_ok, fun k hk => ?_⟩
    have hk : k < 6 := hk
    match k, hk with
    | 0, _ => exact Or.inl ⟨rfl, rfl⟩
    | 1, _ => exact Or.inr (Or.inr ⟨rfl, Or.inl ⟨_, rfl⟩⟩)
    | 2, _ => exact Or.inl ⟨rfl, rfl⟩
    | 3, _ => exact Or.inl ⟨rfl, rfl⟩
    | 4, _ => exact Or.inl ⟨rfl, rfl⟩
    | 5, _ => exact Or.inl ⟨rfl, rfl⟩
    | (k + 6), hk => omega
  | 4 =>
    cases h
    refine ⟨n_Sto, t_Sto, t_Sto_ok, fun k hk => ?_⟩
    have hk : k < 4 := hk
    match k, hk with
    | 0, _ => exact Or.inr (Or.inr ⟨rfl, Or.inr ⟨_, rfl⟩⟩)
    | 1, _ => exact Or.inr (Or.inr ⟨rfl, Or.inr ⟨_, rfl⟩⟩)
    | 2, _ => exact Or.inl ⟨rfl, rfl⟩
    | 3, _ => exact Or.inl ⟨rfl, rfl⟩
    | (k + 4), hk => omega
  | 5 =>
    cases h
    refine ⟨n_At, t_At, t_At_ok, fun k hk => ?_⟩
    have hk : k < 8 := hk
    match k, hk with
    | 0, _ => exact Or.inl ⟨rfl, rfl⟩
    | 1, _ => exact Or.inr (Or.inl ⟨rfl, rfl⟩)
    | 2, _ => exact Or.inr (Or.inr ⟨rfl, Or.inr ⟨_, rfl⟩⟩)
    | 3, _ => exact Or.inl ⟨rfl, rfl⟩
    | 4, _ => exact Or.inl ⟨rfl, rfl⟩
    | 5, _ => exact Or.inr (Or.inl ⟨rfl, rfl⟩)
    | 6, _ => exact Or.inl ⟨rfl, rfl⟩
    | 7, _ => exact Or.inl ⟨rfl, rfl⟩
    | (k + 8), hk => omega
  | 6 =>
    cases h
    refine ⟨n_Cmd, t_Cmd, t_Cmd_ok, fun k hk => ?_⟩
    have hk : k < 3 := hk
    match k, hk with
    | 0, _ => exact Or.inl ⟨rfl, rfl⟩
    | 1, _ => exact Or.inl ⟨rfl, rfl⟩
    | 2, _ => exact Or.inl ⟨rfl, rfl⟩
    | (k + 3), hk => omega
  | 7 =>
    cases h
    refine ⟨n_Or, t_Or, t_Or_ok, fun k hk => ?_⟩
    have hk : k < 3 := hk
    match k, hk with
    | 0, _ => exact Or.inr (Or.inr ⟨rfl, Or.inl ⟨_, rfl⟩⟩)
    | 1, _ => exact Or.inl ⟨rfl, rfl⟩
    | 2, _ => exact Or.inl ⟨rfl, rfl⟩
    | (k + 3), hk => omega
  | 8 =>
    cases h
    refine ⟨n_Rt, t_Rt, t_Rt_ok, fun k hk => ?_⟩
    have hk : k < 4 := hk
    match k, hk with
    | 0, _ => exact Or.inl ⟨rfl, rfl⟩
    | 1, _ => exact Or.inl ⟨rfl, rfl⟩
    | 2, _ => exact Or.inr (Or.inr ⟨rfl, Or.inl ⟨_, rfl⟩⟩)
    | 3, _ => exact Or.inl ⟨rfl, rfl⟩
    | (k + 4), hk => omega
  | 9 =>
    cases h
    refine ⟨n_Ms, t_Ms, t_Ms_ok, fun k hk => ?_⟩
    have hk : k < 7 := hk
    match k, hk with
    | 0, _ => exact Or.inl ⟨rfl, rfl⟩
    | 1, _ => exact Or.inl ⟨rfl, rfl⟩
    | 2, _ => exact Or.inl ⟨rfl, rfl⟩
    | 3, _ => exact Or.inl ⟨rfl, rfl⟩
    | 4, _ => exact Or.inl ⟨rfl, rfl⟩
    | 5, _ => exact Or.inr (Or.inr ⟨rfl, Or.inl ⟨_, rfl⟩⟩)
    | 6, _ => exact Or.inr (Or.inr ⟨rfl, Or.inl ⟨_, rfl⟩⟩)
    | (k + 7), hk => omega
  | 10 =>
    cases h
    refine ⟨n_Md, t_Md, t_Md_ok, fun k hk => ?_⟩
    have hk : k < 30 := hk
    match k, hk with
    | 0, _ => exact Or.inl ⟨rfl, rfl⟩
    | 1, _ => exact Or.inl ⟨rfl, rfl⟩
    | 2, _ => exact Or.inl ⟨rfl, rfl⟩
    | 3, _ => exact Or.inr (Or.inr ⟨rfl, Or.inr ⟨_, rfl⟩⟩)
    | 4, _ => exact Or.inr (Or.inr ⟨rfl, Or.inr ⟨_, rfl⟩⟩)
    | 5, _ => exact Or.inr (Or.inr ⟨rfl, Or.inr ⟨_, rfl⟩⟩)
    | 6, _ => exact Or.inr (Or.inr ⟨rfl, Or.inr ⟨_, rfl⟩⟩)
    | 7, _ => exact Or.inr (Or.inr ⟨rfl, Or.inr ⟨_, rfl⟩⟩)
    | 8, _ => exact Or.inr (Or.inr ⟨rfl, Or.inr ⟨_, rfl⟩⟩)
    | 9, _ => exact Or.inr (Or.inr ⟨rfl, Or.inr ⟨_, rfl⟩⟩)
    | 10, _ => exact Or.inr (Or.inr ⟨rfl, Or.inr ⟨_, rfl⟩⟩)
    | 11, _ => exact Or.inr (Or.inr ⟨rfl, Or.inr ⟨_, rfl⟩⟩)
    | 12, _ => exact Or.inr (Or.inr ⟨rfl, Or.inr ⟨_, rfl⟩⟩)
    | 13, _ => exact Or.inr (Or.inr ⟨rfl, Or.inr ⟨_, rfl⟩⟩)
    | 14, _ => exact Or.inr (Or.inr ⟨rfl, Or.inr ⟨_, rfl⟩⟩)
    | 15, _ => exact Or.inr (Or.inr ⟨rfl, Or.inr ⟨_, rfl⟩⟩)
    | 16, _ => exact Or.inr (Or.inr ⟨rfl, Or.inr ⟨_, rfl⟩⟩)
    | 17, _ => exact Or.inr (Or.inr ⟨rfl, Or.inr ⟨_, rfl⟩⟩)
    | 18, _ => exact Or.inr (Or.inr ⟨rfl, Or.inr ⟨_, rfl⟩⟩)
    | 19, _ => exact Or.inr (Or.inr ⟨rfl, Or.inr ⟨_, rfl⟩⟩)
    | 20, _ => exact Or.inr (Or.inr ⟨rfl, Or.inr ⟨_, rfl⟩⟩)
    | 21, _ => exact Or.inr (Or.inr ⟨rfl, Or.inr ⟨_, rfl⟩⟩)
    | 22, _ => exact Or.inr (Or.inr ⟨rfl, Or.inr ⟨_, rfl⟩⟩)
    | 23, _ => exact Or.inr (Or.inr ⟨rfl, Or.inr ⟨_, rfl⟩⟩)
    | 24, _ => exact Or.inr (Or.inr ⟨rfl, Or.inr ⟨_, rfl⟩⟩)
    | 25, _ => exact Or.inr (Or.inr ⟨rfl, Or.inr ⟨_, rfl⟩⟩)
    | 26, _ => exact Or.inl ⟨rfl, rfl⟩
    | 27, _ => exact Or.inl ⟨rfl, rfl⟩
    | 28, _ => exact Or.inr (Or.inr ⟨rfl, Or.inr ⟨_, rfl⟩⟩)
    | 29, _ => exact Or.inr (Or.inr ⟨rfl, Or.inr ⟨_, rfl⟩⟩)
    | (k + 30), hk => omega
  | (ci + 11) => simp [me_cls] at h
theorem mG_AT : me_AT (mG B Dd cA) eL := by
  refine ⟨⟨_, rfl⟩, ⟨_, rfl⟩, fun a t h2 h => ?_⟩
  match a, h2 with
  | 2, _ =>
    cases h
    exact ⟨9, (R_Ms, F_Ms, 7), by decide, rfl, rfl, rfl⟩
  | 3, _ =>
    cases h
    exact ⟨2, (R_Rp, F_Rp, 8), by decide, rfl, rfl, rfl⟩
  | 4, _ =>
    cases h
    exact ⟨3, (R_En, F_En, 6), by decide, rfl, rfl, rfl⟩
  | 5, _ =>
    cases h
    exact ⟨5, (R_At, F_At, 8), by decide, rfl, rfl, rfl⟩
  | 6, _ =>
    cases h
    exact ⟨8, (R_Rt, F_Rt, 4), by decide, rfl, rfl, rfl⟩
  | (a + 7), _ => exact absurd (show (none : Option (ClassId × FieldType)) = some t from h) (fun z => by cases z)
end GG
theorem cl_LM : ∀ w ∈ u_ws R_LM F_LM 5, w ∈ LW := by
  intro w hw
  obtain ⟨k, hk, rfl⟩ := List.mem_map.mp hw
  have hk := List.mem_range.mp hk
  match k, hk with
  | 0, _ => exact mT 144 (by decide +kernel) (by decide +kernel)
  | 1, _ => exact mT 146 (by decide +kernel) (by decide +kernel)
  | 2, _ => exact mT 148 (by decide +kernel) (by decide +kernel)
  | 3, _ => exact mT 150 (by decide +kernel) (by decide +kernel)
  | 4, _ => exact mT 152 (by decide +kernel) (by decide +kernel)
  | (k + 5), hk => omega
theorem cl_Net : ∀ w ∈ u_ws R_Net F_Net 3, w ∈ LW := by
  intro w hw
  obtain ⟨k, hk, rfl⟩ := List.mem_map.mp hw
  have hk := List.mem_range.mp hk
  match k, hk with
  | 0, _ => exact mT 34 (by decide +kernel) (by decide +kernel)
  | 1, _ => exact mT 36 (by decide +kernel) (by decide +kernel)
  | 2, _ => exact mT 38 (by decide +kernel) (by decide +kernel)
  | (k + 3), hk => omega
theorem cl_Rp : ∀ w ∈ u_ws R_Rp F_Rp 8, w ∈ LW := by
  intro w hw
  obtain ⟨k, hk, rfl⟩ := List.mem_map.mp hw
  have hk := List.mem_range.mp hk
  match k, hk with
  | 0, _ => exact mT 122 (by decide +kernel) (by decide +kernel)
  | 1, _ => exact mT 124 (by decide +kernel) (by decide +kernel)
  | 2, _ => exact mT 126 (by decide +kernel) (by decide +kernel)
  | 3, _ => exact mT 128 (by decide +kernel) (by decide +kernel)
  | 4, _ => exact mT 130 (by decide +kernel) (by decide +kernel)
  | 5, _ => exact mT 132 (by decide +kernel) (by decide +kernel)
  | 6, _ => exact mT 134 (by decide +kernel) (by decide +kernel)
  | 7, _ => exact mT 136 (by decide +kernel) (by decide +kernel)
  | (k + 8), hk => omega
theorem cl_En : ∀ w ∈ u_ws R_En F_En 6, w ∈ LW := by
  intro w hw
  obtain ⟨k, hk, rfl⟩ := List.mem_map.mp hw
  have hk := List.mem_range.mp hk
  match k, hk with
  | 0, _ => exact mT 75 (by decide +kernel) (by decide +kernel)
  | 1, _ => exact mT 77 (by decide +kernel) (by decide +kernel)
  | 2, _ => exact mT 79 (by decide +kernel) (by decide +kernel)
  | 3, _ => exact mT 81 (by decide +kernel) (by decide +kernel)
  | 4, _ => exact mT 83 (by decide +kernel) (by decide +kernel)
  | 5, _ => exact mT 85 (by decide +kernel) (by decide +kernel)
  | (k + 6), hk => omega
theorem cl_Sto : ∀ w ∈ u_ws R_Sto F_Sto 4, w ∈ LW := by
  intro w hw
  obtain ⟨k, hk, rfl⟩ := List.mem_map.mp hw
  have hk := List.mem_range.mp hk
  match k, hk with
  | 0, _ => exact mT 101 (by decide +kernel) (by decide +kernel)
  | 1, _ => exact mT 103 (by decide +kernel) (by decide +kernel)
  | 2, _ => exact mT 105 (by decide +kernel) (by decide +kernel)
  | 3, _ => exact mT 107 (by decide +kernel) (by decide +kernel)
  | (k + 4), hk => omega
theorem cl_At : ∀ w ∈ u_ws R_At F_At 8, w ∈ LW := by
  intro w hw
  obtain ⟨k, hk, rfl⟩ := List.mem_map.mp hw
  have hk := List.mem_range.mp hk
  match k, hk with
  | 0, _ => exact mT 262 (by decide +kernel) (by decide +kernel)
  | 1, _ => exact mT 264 (by decide +kernel) (by decide +kernel)
  | 2, _ => exact mT 266 (by decide +kernel) (by decide +kernel)
  | 3, _ => exact mT 268 (by decide +kernel) (by decide +kernel)
  | 4, _ => exact mT 270 (by decide +kernel) (by decide +kernel)
  | 5, _ => exact mT 272 (by decide +kernel) (by decide +kernel)
  | 6, _ => exact mT 274 (by decide +kernel) (by decide +kernel)
  | 7, _ => exact mT 276 (by decide +kernel) (by decide +kernel)
  | (k + 8), hk => omega
theorem cl_Cmd : ∀ w ∈ u_ws R_Cmd F_Cmd 3, w ∈ LW := by
  intro w hw
  obtain ⟨k, hk, rfl⟩ := List.mem_map.mp hw
  have hk := List.mem_range.mp hk
  match k, hk with
  | 0, _ => exact mT 187 (by decide +kernel) (by decide +kernel)
  | 1, _ => exact mT 189 (by decide +kernel) (by decide +kernel)
  | 2, _ => exact mT 191 (by decide +kernel) (by decide +kernel)
  | (k + 3), hk => omega
theorem cl_Or : ∀ w ∈ u_ws R_Or F_Or 3, w ∈ LW := by
  intro w hw
  obtain ⟨k, hk, rfl⟩ := List.mem_map.mp hw
  have hk := List.mem_range.mp hk
  match k, hk with
  | 0, _ => exact mT 218 (by decide +kernel) (by decide +kernel)
  | 1, _ => exact mT 220 (by decide +kernel) (by decide +kernel)
  | 2, _ => exact mT 222 (by decide +kernel) (by decide +kernel)
  | (k + 3), hk => omega
theorem cl_Rt : ∀ w ∈ u_ws R_Rt F_Rt 4, w ∈ LW := by
  intro w hw
  obtain ⟨k, hk, rfl⟩ := List.mem_map.mp hw
  have hk := List.mem_range.mp hk
  match k, hk with
  | 0, _ => exact mT 434 (by decide +kernel) (by decide +kernel)
  | 1, _ => exact mT 436 (by decide +kernel) (by decide +kernel)
  | 2, _ => exact mT 438 (by decide +kernel) (by decide +kernel)
  | 3, _ => exact mT 440 (by decide +kernel) (by decide +kernel)
  | (k + 4), hk => omega
theorem cl_Ms : ∀ w ∈ u_ws R_Ms F_Ms 7, w ∈ LW := by
  intro w hw
  obtain ⟨k, hk, rfl⟩ := List.mem_map.mp hw
  have hk := List.mem_range.mp hk
  match k, hk with
  | 0, _ => exact mT 302 (by decide +kernel) (by decide +kernel)
  | 1, _ => exact mT 304 (by decide +kernel) (by decide +kernel)
  | 2, _ => exact mT 306 (by decide +kernel) (by decide +kernel)
  | 3, _ => exact mT 308 (by decide +kernel) (by decide +kernel)
  | 4, _ => exact mT 310 (by decide +kernel) (by decide +kernel)
  | 5, _ => exact mT 312 (by decide +kernel) (by decide +kernel)
  | 6, _ => exact mT 314 (by decide +kernel) (by decide +kernel)
  | (k + 7), hk => omega
theorem cl_Md : ∀ w ∈ u_ws R_Md F_Md 30, w ∈ LW := by
  intro w hw
  obtain ⟨k, hk, rfl⟩ := List.mem_map.mp hw
  have hk := List.mem_range.mp hk
  match k, hk with
  | 0, _ => exact mT 620 (by decide +kernel) (by decide +kernel)
  | 1, _ => exact mT 622 (by decide +kernel) (by decide +kernel)
  | 2, _ => exact mT 624 (by decide +kernel) (by decide +kernel)
  | 3, _ => exact mT 626 (by decide +kernel) (by decide +kernel)
  | 4, _ => exact mT 628 (by decide +kernel) (by decide +kernel)
  | 5, _ => exact mT 630 (by decide +kernel) (by decide +kernel)
  | 6, _ => exact mT 632 (by decide +kernel) (by decide +kernel)
  | 7, _ => exact mT 634 (by decide +kernel) (by decide +kernel)
  | 8, _ => exact mT 636 (by decide +kernel) (by decide +kernel)
  | 9, _ => exact mT 638 (by decide +kernel) (by decide +kernel)
  | 10, _ => exact mT 640 (by decide +kernel) (by decide +kernel)
  | 11, _ => exact mT 642 (by decide +kernel) (by decide +kernel)
  | 12, _ => exact mT 644 (by decide +kernel) (by decide +kernel)
  | 13, _ => exact mT 646 (by decide +kernel) (by decide +kernel)
  | 14, _ => exact mT 648 (by decide +kernel) (by decide +kernel)
  | 15, _ => exact mT 650 (by decide +kernel) (by decide +kernel)
  | 16, _ => exact mT 652 (by decide +kernel) (by decide +kernel)
  | 17, _ => exact mT 654 (by decide +kernel) (by decide +kernel)
  | 18, _ => exact mT 656 (by decide +kernel) (by decide +kernel)
  | 19, _ => exact mT 658 (by decide +kernel) (by decide +kernel)
  | 20, _ => exact mT 660 (by decide +kernel) (by decide +kernel)
  | 21, _ => exact mT 662 (by decide +kernel) (by decide +kernel)
  | 22, _ => exact mT 664 (by decide +kernel) (by decide +kernel)
  | 23, _ => exact mT 666 (by decide +kernel) (by decide +kernel)
  | 24, _ => exact mT 668 (by decide +kernel) (by decide +kernel)
  | 25, _ => exact mT 670 (by decide +kernel) (by decide +kernel)
  | 26, _ => exact mT 672 (by decide +kernel) (by decide +kernel)
  | 27, _ => exact mT 674 (by decide +kernel) (by decide +kernel)
  | 28, _ => exact mT 676 (by decide +kernel) (by decide +kernel)
  | 29, _ => exact mT 678 (by decide +kernel) (by decide +kernel)
  | (k + 30), hk => omega
theorem kn_all {args : Array Value} {s : State} (hts : ∀ w ∈ LW, w.before args s = true) : ∃ Dd : va_G, ∀ (c : Nat) (q : vw_C), me_cls[c]? = some q → u_Kn s q.1 q.2.1 q.2.2 (Dd.1 c) (Dd.2 c) := by
  have h : ∀ c : Nat, ∃ z : ClassId × (Nat → Nat), ∀ q : vw_C, me_cls[c]? = some q → u_Kn s q.1 q.2.1 q.2.2 z.1 z.2 := by
    intro c
    obtain ⟨a0, b0, h0⟩ := u_known (T := F_LM) (N := 5) (n := 5) hts cl_LM (hts _ (mT 14 (by decide +kernel) rfl))
    match c with
    | 0 =>
      obtain ⟨a, b, h⟩ := u_known (T := F_LM) (N := 5) (n := 5) hts cl_LM (hts _ (mT 14 (by decide +kernel) rfl))
      exact ⟨(a, b), fun q hq => by cases hq; exact h⟩
    | 1 =>
      obtain ⟨a, b, h⟩ := u_known (T := F_Net) (N := 3) (n := 3) hts cl_Net (hts _ (mT 22 (by decide +kernel) rfl))
      exact ⟨(a, b), fun q hq => by cases hq; exact h⟩
    | 2 =>
      obtain ⟨a, b, h⟩ := u_known (T := F_Rp) (N := 8) (n := 8) hts cl_Rp (hts _ (mT 43 (by decide +kernel) rfl))
      exact ⟨(a, b), fun q hq => by cases hq; exact h⟩
    | 3 =>
      obtain ⟨a, b, h⟩ := u_known (T := F_En) (N := 6) (n := 6) hts cl_En (hts _ (mT 50 (by decide +kernel) rfl))
      exact ⟨(a, b), fun q hq => by cases hq; exact h⟩
    | 4 =>
      obtain ⟨a, b, h⟩ := u_known (T := F_Sto) (N := 4) (n := 4) hts cl_Sto (hts _ (mT 91 (by decide +kernel) rfl))
      exact ⟨(a, b), fun q hq => by cases hq; exact h⟩
    | 5 =>
      obtain ⟨a, b, h⟩ := u_known (T := F_At) (N := 8) (n := 8) hts cl_At (hts _ (mT 240 (by decide +kernel) rfl))
      exact ⟨(a, b), fun q hq => by cases hq; exact h⟩
    | 6 =>
      obtain ⟨a, b, h⟩ := u_known (T := F_Cmd) (N := 3) (n := 3) hts cl_Cmd (hts _ (mT 176 (by decide +kernel) rfl))
      exact ⟨(a, b), fun q hq => by cases hq; exact h⟩
    | 7 =>
      obtain ⟨a, b, h⟩ := u_known (T := F_Or) (N := 3) (n := 3) hts cl_Or (hts _ (mT 199 (by decide +kernel) rfl))
      exact ⟨(a, b), fun q hq => by cases hq; exact h⟩
    | 8 =>
      obtain ⟨a, b, h⟩ := u_known (T := F_Rt) (N := 4) (n := 4) hts cl_Rt (hts _ (mT 421 (by decide +kernel) rfl))
      exact ⟨(a, b), fun q hq => by cases hq; exact h⟩
    | 9 =>
      obtain ⟨a, b, h⟩ := u_known (T := F_Ms) (N := 7) (n := 7) hts cl_Ms (hts _ (mT 280 (by decide +kernel) rfl))
      exact ⟨(a, b), fun q hq => by cases hq; exact h⟩
    | 10 =>
      obtain ⟨a, b, h⟩ := u_known (T := F_Md) (N := 30) (n := 30) hts cl_Md (hts _ (mT 585 (by decide +kernel) rfl))
      exact ⟨(a, b), fun q hq => by cases hq; exact h⟩
    | (c + 11) => exact ⟨(a0, b0), fun q hq => by simp [me_cls] at hq⟩
  exact ⟨(fun c => (Classical.choose (h c)).1, fun c => (Classical.choose (h c)).2), fun c q hq => Classical.choose_spec (h c) q hq⟩
theorem ar_int {args : Array Value} {s : State} {ty : FieldType} (h : (Cond.arrayClass ty).before args s = true) : ∃ cA, ArrOfT s cA ty ∧ s.vm.findClass ("[" ++ ty.toString) = some cA := by
  obtain ⟨cA, kA, comp, h1, h2, h3⟩ := Cond.arrayClass_spec h
  exact ⟨cA, fun n z => ⟨(fun k h => by cases h), kA, h2, comp, h3⟩, h1⟩
theorem ar_obj {args : Array Value} {s : State} {C : String} (h : (Cond.arrayOver (.object C)).before args s = true) : ∃ cA, ArrOfT s cA (.object C) ∧ va_RA s cA (.object C) := by
  obtain ⟨comp, cA, kA, h1, h2, h3, h4, h5⟩ := Cond.arrayOver_spec h
  exact ⟨cA, fun n z => ⟨(fun k h => by cases h), kA, h3, comp, h4⟩, kA, comp, h3, h4, h1, h5⟩
theorem wW_in : ∀ w ∈ wW, w ∈ lw_tbl := by
  intro w hw
  simp only [wW, List.mem_cons, List.not_mem_nil, or_false] at hw
  rcases hw with h | h | h | h | h | h | h
  · rw [h]; exact List.mem_append_right _ (List.mem_of_getElem? (i := 23) (by decide +kernel))
  · rw [h]; exact List.mem_append_right _ (List.mem_of_getElem? (i := 51) (by decide +kernel))
  · rw [h]; exact List.mem_append_right _ (List.mem_of_getElem? (i := 28) (by decide +kernel))
  · rw [h]; exact List.mem_append_right _ (List.mem_of_getElem? (i := 42) (by decide +kernel))
  · rw [h]; exact List.mem_append_right _ (List.mem_of_getElem? (i := 49) (by decide +kernel))
  · rw [h]; exact List.mem_append_right _ (List.mem_of_getElem? (i := 89) (by decide +kernel))
  · rw [h]; exact List.mem_append_right _ (List.mem_of_getElem? (i := 246) (by decide +kernel))
theorem kn_G {args : Array Value} {s : State} (hts : ∀ w ∈ lw_tbl, w.before args s = true) : ∃ (Dd : va_G) (cA : Nat → ClassId), ∀ B, va_K (gD (mG B Dd cA)) (gC (mG B Dd cA)) (gT (mG B Dd cA)) s := by
  have hL : ∀ w ∈ LW, w.before args s = true := fun w hw => hts w (LW_in hw).1
  obtain ⟨Dd, h⟩ := kn_all hL
  obtain ⟨c0, a0, b0⟩ := ar_int (ty := .int) (hL _ (mT 110 (by decide +kernel) rfl))
  obtain ⟨c1, a1, b1⟩ := ar_int (ty := .boolean) (hL _ (mT 681 (by decide +kernel) rfl))
  obtain ⟨c2, a2, b2⟩ := ar_obj (C := R_Ms) (hts _ (wW_in _ (List.mem_of_getElem? (i := 2) rfl)))
  obtain ⟨c3, a3, b3⟩ := ar_obj (C := R_Rp) (hts _ (wW_in _ (List.mem_of_getElem? (i := 3) rfl)))
  obtain ⟨c4, a4, b4⟩ := ar_obj (C := R_En) (hts _ (wW_in _ (List.mem_of_getElem? (i := 4) rfl)))
  obtain ⟨c5, a5, b5⟩ := ar_obj (C := R_At) (hts _ (wW_in _ (List.mem_of_getElem? (i := 5) rfl)))
  obtain ⟨c6, a6, b6⟩ := ar_obj (C := R_Rt) (hts _ (wW_in _ (List.mem_of_getElem? (i := 6) rfl)))
  refine ⟨Dd, fun k => match k with | 0 => c0 | 1 => c1 | 2 => c2 | 3 => c3 | 4 => c4 | 5 => c5 | _ => c6, fun B => ⟨h, fun k q hq => ?_⟩⟩
  match k with
  | 0 => cases hq; exact ⟨a0, b0⟩
  | 1 => cases hq; exact ⟨a1, b1⟩
  | 2 => cases hq; exact ⟨a2, b2⟩
  | 3 => cases hq; exact ⟨a3, b3⟩
  | 4 => cases hq; exact ⟨a4, b4⟩
  | 5 => cases hq; exact ⟨a5, b5⟩
  | 6 => cases hq; exact ⟨a6, b6⟩
  | (k + 7) => exact absurd (show (none : Option (ClassId × FieldType)) = some q from hq) (fun z => by cases z)
theorem nw_G {args : Array Value} {s : State} (hts : ∀ w ∈ lw_tbl, w.before args s = true) {B : Nat} {Dd : va_G} {cA : Nat → ClassId} : me_Nw (mG B Dd cA) s := by
  intro w hw
  have hb := hts w (wW_in w hw)
  have hw : w ∈ wW := hw
  simp only [wW, List.mem_cons, List.not_mem_nil, or_false] at hw
  rcases hw with h | h | h | h | h | h | h
  · subst h; exact hb
  · subst h; exact hb
  · subst h; exact hb
  · subst h; exact hb
  · subst h; exact hb
  · subst h; exact hb
  · subst h; exact hb
