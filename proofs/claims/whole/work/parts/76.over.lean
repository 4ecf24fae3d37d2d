/-! ===== the pure part: transfers end ===== -/
/-- the rows of the devices, transfer i apart -/
def gVi (ρ : ed_S) (q : Nat → List Nat) (i : Nat) : Prop := ∀ o, o < 16 → (q (16 + o)).Pairwise (fun a b => ρ 37 0 a < ρ 37 0 b) ∧ ∀ j, j ∈ q (16 + o) ↔ j < 8 ∧ ρ 31 0 j = 0 ∧ ρ 34 0 j = nI o ∧ j ≠ i
def gMi (σ ρ : ed_S) (T P : Nat) (q : Nat → List Nat) (i : Nat) : Prop := gQ σ q ∧ gA σ ρ T P ∧ gT σ ρ T P ∧ gU σ ρ T q ∧ gR ρ T ∧ gC ρ T q ∧ gW σ ρ T q ∧ gD ρ T q ∧ gX σ ρ ∧ gVi ρ q i ∧ gI ρ q ∧ gP σ ρ ∧ gH σ ρ T q ∧ gO σ ρ T q
def zMi (b : Nat) (σ ρ : ed_S) (T P : Nat) (q : Nat → List Nat) (i : Nat) : Prop := gMi σ ρ T P q i ∧ bd_ ρ b ∧ qu_ ρ q ∧ gJ ρ q ∧ gK ρ ∧ gL ρ T
/-- what the end of a transfer changes -/
def fi_ (σ ρ σ' ρ' : ed_S) (q q' : Nat → List Nat) : Prop := ag_ σ σ' [2, 10, 11, 18, 25, 26, 27, 28, 31, 32, 37, 38, 39] ∧ ag_ ρ ρ' [7, 8, 13, 16, 20, 21, 24, 25, 31, 32, 37, 38, 39, 50, 51] ∧ (∀ r, r < 8 ∨ r = 33 → q' r = q r) ∧ ∀ u, ρ' 7 0 u = ρ 7 0 u ∨ (ρ 7 0 u = 2 ∧ ρ' 7 0 u = 1)
theorem fi_.rf {σ ρ : ed_S} {q : Nat → List Nat} : fi_ σ ρ σ ρ q q := ⟨ag_.rf, ag_.rf, fun _ _ => rfl, fun _ => Or.inl rfl⟩
theorem fi_.tr {σ ρ σ1 ρ1 σ2 ρ2 : ed_S} {q q1 q2 : Nat → List Nat} (h : fi_ σ ρ σ1 ρ1 q q1) (h2 : fi_ σ1 ρ1 σ2 ρ2 q1 q2) : fi_ σ ρ σ2 ρ2 q q2 := ⟨h.1.tr h2.1, h.2.1.tr h2.2.1, fun r hr => (h2.2.2.1 r hr).trans (h.2.2.1 r hr), fun u => by
  rcases h.2.2.2 u with e | e
  · rw [← e]; exact h2.2.2.2 u
  · rcases h2.2.2.2 u with e2 | e2
    · exact Or.inr ⟨e.1, by rw [e2]; exact e.2⟩
    · rw [e.2] at e2; exact absurd e2.1 (by decide)⟩
theorem fi_.re {T : Nat} {σ ρ σ' ρ' : ed_S} {q q' : Nat → List Nat} (h : re_ T σ ρ σ' ρ' q q') : fi_ σ ρ σ' ρ' q q' := ⟨h.1.mo (by decide), h.2.1.mo (by decide), fun r hr => h.2.2.1 r (by omega), h.2.2.2⟩
theorem na_.fi {T : Nat} {σ ρ σ' ρ' : ed_S} {q q' : Nat → List Nat} (hT : T ≤ 8) (h : fi_ σ ρ σ' ρ' q q') (n : na_ ρ T q) : na_ ρ' T q' := fun t ht w v => by
  rw [h.2.2.1 t (by omega)]
  rw [h.2.1.at 14 (by decide)] at v
  refine n t ht ?_ v
  rcases h.2.2.2 t with e | e
  · rw [← e]; exact w
  · exact e.1
/-- transfer i leaves its row -/
theorem gMi.rm {σ ρ σ1 : ed_S} {T P i o : Nat} {q : Nat → List Nat} {l : List Nat} (m : gM σ ρ T P q) (ho : o < 16) (h34 : ρ 34 0 i = nI o) (hf : fr_ σ σ1 (16 + o)) (hl : rw_ σ1 (16 + o) l) (hm : ∀ j, j ∈ l ↔ j ∈ q (16 + o) ∧ j ≠ i) (hp : l.Pairwise (fun a b => ρ 37 0 a < ρ 37 0 b)) : gMi σ1 ρ T P (va_up q (16 + o) l) i := by
  obtain ⟨nQ, nA, nT, nU, nR, nC, nW, nD, nX, nV, nI', nP, nH, nO⟩ := m
  have a : ag_ σ σ1 [18, 39] := ag_.rf.fr hf (by decide) (by decide)
  have b : ag_ ρ ρ [] := ag_.rf
  have q33 : va_up q (16 + o) l 33 = q 33 := up_n (by omega)
  refine ⟨nQ.up hf hl, nA.ag a b (by decide) (by decide), nT.ag a b (by decide) (by decide), ?_, nR, ?_, (nW.ag a b (by decide) (by decide)).q (up_n (by omega)), nD.q (fun p _ => up_n (by omega)), nX.ag a b (by decide) (by decide), ?_, nI'.q q33, nP.ag a b (by decide) (by decide), nH.ag a (by decide) (fun _ => rfl) (fun _ => by rw [q33]), nO.ag a b (by decide) (by decide) (fun _ => rfl) (fun _ => by rw [q33])⟩
  · intro u hu hu8
    rw [up_n (by omega)]
    exact (nU.ag a b (by decide) (by decide)) u hu hu8
  · intro u hu
    have hT8 := nA.2.1
    rw [up_n (by omega)]
    exact nC u hu
  · intro u hu
    by_cases c : u = o
    · subst c
      rw [up_s]
      refine ⟨hp, fun j => ?_⟩
      rw [hm, (nV u hu).2 j]
      exact ⟨fun z => ⟨z.1.1, z.1.2.1, z.1.2.2, z.2⟩, fun z => ⟨⟨z.1, z.2.1, z.2.2.1⟩, z.2.2.2⟩⟩
    · rw [up_n (by omega)]
      refine ⟨(nV u hu).1, fun j => ?_⟩
      rw [(nV u hu).2 j]
      refine ⟨fun z => ⟨z.1, z.2.1, z.2.2, fun w => ?_⟩, fun z => ⟨z.1, z.2.1, z.2.2.1⟩⟩
      rw [w, h34] at z
      exact c ((nI_eq (by omega) (by omega)).mp z.2.2).symm
theorem d_pto {σ : ed_S} {i o : Nat} {m : Int32} (ho : o < 16) (h34 : σ 34 i 0 = nI o) (h36 : oi_ (σ 36 i 0) 16) : ∃ σ', F_Desk_pointToObjectsOf i m σ = some σ' ∧ ag_ σ σ' [25] ∧ ∀ u, u < 16 → σ' 25 u 0 = σ 25 u 0 + (if nI o = nI u then m else 0) + (if σ 36 i 0 = nI u then m else 0) := by
  have hst : ∀ (τ : ed_S) (v : Nat), v < 16 → ∀ u, u < 16 → ed_st τ 25 v 0 (τ 25 v 0 + m) 25 u 0 = τ 25 u 0 + (if nI v = nI u then m else 0) := fun τ v hv u hu => by
    by_cases c : v = u
    · subst c
      rw [ed_st_s, if_pos rfl]
    · rw [ed_st_n (by omega), if_neg (fun z => c ((nI_eq (by omega) (by omega)).mp z)), Int32.add_zero]
  unfold F_Desk_pointToObjectsOf
  rw [h34, vG_at ho (by omega)]
  simp only [vL]
  rw [ed_st_n (show ¬ (36 = 25 ∧ i = o ∧ 0 = 0) by omega)]
  rcases h36 with z | ⟨v, hv, z⟩
  · rw [if_pos z]
    refine ⟨_, rfl, ag_.rf.st (by decide), fun u hu => ?_⟩
    rw [hst σ o ho u hu, z, if_neg (show ¬ (-1 : Int32) = nI u from fun w => nI_m1 (show u < 2 ^ 31 by omega) w.symm), Int32.add_zero]
  · rw [if_neg (by rw [z]; exact nI_m1 (by omega)), z, vG_at hv (by omega)]
    refine ⟨_, rfl, (ag_.rf.st (by decide)).st (by decide), fun u hu => ?_⟩
    rw [hst _ v hv u hu, hst σ o ho u hu]
theorem pc_tr {ρ ρ' : ed_S} {T K i : Nat} {L' : List Nat} (hi : i < 8) (h0 : ρ 31 0 i = 0) (h0' : ¬ ρ' 31 0 i = 0) (hne : ∀ j, j ≠ i → ρ' 31 0 j = ρ 31 0 j) (r34 : ∀ j, j ≠ i → ρ' 34 0 j = ρ 34 0 j) (r36 : ∀ j, j ≠ i → ρ' 36 0 j = ρ 36 0 j) (b : ag_ ρ ρ' L') (hb : ∀ k ∈ [7, 17, 40], k ∉ L') (o : Int32) : pc_ ρ T K o = (pc_ ρ' T K o + (if ρ 36 0 i = o then 1 else 0)) + (if ρ 34 0 i = o then 1 else 0) := by
  have h1 := cn_upd (n := 8) (c := pd_ ρ' o) (d := pd_ ρ o) hi (fun j _ hj => by simp only [pd_, hne j hj, r34 j hj])
  have h2 := cn_upd (n := 8) (c := ps_ ρ' o) (d := ps_ ρ o) hi (fun j _ hj => by simp only [ps_, hne j hj, r36 j hj])
  have e1 : pd_ ρ' o i = false := by simp [pd_, h0']
  have e2 : ps_ ρ' o i = false := by simp [ps_, h0']
  have e3 : pd_ ρ o i = decide (ρ 34 0 i = o) := by simp [pd_, h0]
  have e4 : ps_ ρ o i = decide (ρ 36 0 i = o) := by simp [ps_, h0]
  rw [e1, e3] at h1
  rw [e2, e4] at h2
  simp only [decide_eq_true_eq, Bool.false_eq_true, if_false, Nat.add_zero] at h1 h2
  unfold pc_
  rw [cn_congr (c := pw_ ρ' o) (d := pw_ ρ o) (fun j _ => by simp only [pw_, b.at 7 (hb 7 (by decide)), b.at 17 (hb 17 (by decide))]), cn_congr (c := pi_ ρ' o) (d := pi_ ρ o) (fun j _ => by simp only [pi_, b.at 40 (hb 40 (by decide))])]
  omega
theorem ob_.turn {σ ρ : ed_S} {o : Nat} {x : Int32} (hob : ob_ σ ρ o) (hty : ρ 22 0 o = 0 ∨ ρ 22 0 o = 1) (hx : x = 0 ∨ x = 1) : ob_ (ed_st σ 26 o 0 x) (ed_st ρ 20 0 o x) o := by
  have hob' := hob
  obtain ⟨o1, o2, o3, o4, o5, o6, o7, o8, o9, o10, o11, o12, o13, o14, o15⟩ := hob
  have ne2 : ¬ ρ 22 0 o = 2 := fun z => by rcases hty with w | w <;> (rw [w] at z; exact absurd z (by decide))
  have ne3 : ¬ ρ 22 0 o = 3 := fun z => by rcases hty with w | w <;> (rw [w] at z; exact absurd z (by decide))
  have ne5 : ¬ ρ 22 0 o = 5 := fun z => by rcases hty with w | w <;> (rw [w] at z; exact absurd z (by decide))
  refine hob'.put (ag_.rf.st (by decide)) (ag_.rf.st (by decide)) ?_ ?_ ?_ ?_ ?_ ?_ ?_ ?_ ?_
  · rw [ed_st_n (by omega), ed_st_n (by omega)]; exact o4
  · rw [ed_st_n (by omega)]; exact o5
  · rw [ed_st_n (by omega), ed_st_n (by omega)]; exact o6
  · rw [ed_st_n (by omega)]; exact o7
  · rw [ed_st_n (by omega)]; exact o8
  · rw [ed_st_s]; exact hx
  · intro w
    rcases w with w | w | w
    · exact absurd w ne2
    · exact absurd w ne3
    · exact absurd w ne5
  · intro _
    rw [ed_st_s, ed_st_s]
  · intro w
    exact absurd w ne2
/-- transfer i ends -/
theorem s_over {b T P i s : Nat} {σ ρ : ed_S} {q : Nat → List Nat} {y : Int32} (z : zMi b σ ρ T P q i) (hi : i < 8) (h0 : ρ 31 0 i = 0) (hs : 0 < s) (hs6 : s < 6) (hb : b + 8 < 1000000) : ∃ σ' ρ' q', F_Desk_conclude i (nI s) y σ = some σ' ∧ F_Mod_over (nI i) (nI s) y ρ = some ρ' ∧ zM (b + 8) σ' ρ' T P q' ∧ fi_ σ ρ σ' ρ' q q' := by
  obtain ⟨⟨nQ, nA, nT, nU, nR, nC, nW, nD, nX, nV, nI', nP, nH, nO⟩, h2, h3, h4, h5, h6⟩ := z
  have hsn : ¬ nI s = 0 := nI_ne0 hs (by omega)
  obtain ⟨x1, x2, x3, x4, x5, x6, x7, x8, x9, x10, x11, x12⟩ := nX i hi
  obtain ⟨⟨o, ho, h34⟩, h36, h37⟩ := x12 h0
  obtain ⟨σ5, hσ5⟩ : ∃ w, w = ed_st (ed_st (ed_st σ 31 i 0 (nI s)) 32 i 0 y) 2 0 0 (σ 2 0 0 + 1) := ⟨_, rfl⟩
  have a5 : ag_ σ σ5 [2, 31, 32] := by rw [hσ5]; exact ((ag_.rf.st (by decide)).st (by decide)).st (by decide)
  have t36 : σ5 36 i 0 = ρ 36 0 i := by rw [a5.at 36 (by decide)]; exact x6
  obtain ⟨σ7, e7, a7, g7⟩ := d_pto (σ := σ5) (i := i) (o := o) (m := -1) ho (by rw [a5.at 34 (by decide), x4, h34]) (by rw [t36]; exact h36)
  obtain ⟨ρ13, hρ13⟩ : ∃ w, w = ed_st (ed_st (ed_st ρ 31 0 i (nI s)) 32 0 i y) 50 0 0 (ρ 50 0 0 + 1) := ⟨_, rfl⟩
  have a : ag_ σ σ7 [2, 25, 31, 32] := (a5.mo (by decide)).tr (a7.mo (by decide))
  have b' : ag_ ρ ρ13 [31, 32, 50] := by rw [hρ13]; exact ((ag_.rf.st (by decide)).st (by decide)).st (by decide)
  have r31 : ∀ j, ρ13 31 0 j = if j = i then nI s else ρ 31 0 j := fun j => by rw [hρ13]; simp [ed_st]
  have r32 : ∀ j, ρ13 32 0 j = if j = i then y else ρ 32 0 j := fun j => by rw [hρ13]; simp [ed_st]
  have s31 : ∀ j, σ7 31 j 0 = if j = i then nI s else σ 31 j 0 := fun j => by rw [a7.at 31 (by decide), hσ5]; simp [ed_st]
  have s32 : ∀ j, σ7 32 j 0 = if j = i then y else σ 32 j 0 := fun j => by rw [a7.at 32 (by decide), hσ5]; simp [ed_st]
  have hhc : ∀ u, hc_ ρ13 u = hc_ ρ u := fun u => hc_.ag b' (by decide) u
  have hpc : ∀ u, pc_ ρ T (q 33).length u = (pc_ ρ13 T (q 33).length u + (if ρ 36 0 i = u then 1 else 0)) + (if ρ 34 0 i = u then 1 else 0) := fun u => pc_tr hi h0 (by rw [r31, if_pos rfl]; exact hsn) (fun j hj => by rw [r31, if_neg hj]) (fun j _ => b'.at 34 (by decide) 0 j) (fun j _ => b'.at 36 (by decide) 0 j) b' (by decide) u
  have m1 : gM σ7 ρ13 T P q := by
    refine ⟨nQ.ag a (by decide), ?_, nT.ag a b' (by decide) (by decide), nU.ag a b' (by decide) (by decide), nR.ag b' (by decide), nC.ag b' (by decide), nW.ag a b' (by decide) (by decide), nD.ag b' (by decide), ?_, ?_, nI'.ag b' (by decide), nP.ag a b' (by decide) (by decide), ?_, nO.less a b' (by decide) (by decide) hhc (fun u => by have := hpc u; omega)⟩
    · obtain ⟨a1, a2, a3', a4, a5', a6, a7', a8, a9, a10, a11, a12, a13⟩ := nA
      refine ⟨a1, a2, ?_, ?_, ?_, ?_, ?_, ?_, ?_, ?_, ?_, ?_, ?_⟩
      · rw [a.at 0 (by decide)]; exact a3'
      · rw [b'.at 42 (by decide)]; exact a4
      · rw [a.at 1 (by decide)]; exact a5'
      · rw [b'.at 43 (by decide)]; exact a6
      · rw [a7.at 2 (by decide), hσ5, hρ13, ed_st_s, ed_st_s, a7']
      · rw [a.at 3 (by decide), b'.at 46 (by decide)]; exact a8
      · rw [a.at 4 (by decide), b'.at 47 (by decide)]; exact a9
      · rw [b'.at 47 (by decide)]; exact a10
      · rw [a.at 5 (by decide), b'.at 44 (by decide)]; exact a11
      · rw [a.at 6 (by decide), b'.at 45 (by decide)]; exact a12
      · rw [a.at 7 (by decide), b'.at 49 (by decide)]; exact a13
    · intro j hj
      obtain ⟨y1, y2, y3, y4, y5, y6, y7, y8, y9, y10, y11, y12⟩ := nX j hj
      simp only [a.at 33 (by decide), a.at 34 (by decide), a.at 35 (by decide), a.at 36 (by decide), a.at 37 (by decide), a.at 38 (by decide), b'.at 33 (by decide), b'.at 34 (by decide), b'.at 35 (by decide), b'.at 36 (by decide), b'.at 37 (by decide), b'.at 38 (by decide), b'.at 39 (by decide), b'.at 51 (by decide)]
      rw [s31, s32, r31, r32]
      by_cases c : j = i
      · rw [if_pos c, if_pos c, if_pos c, if_pos c]
        exact ⟨rfl, rfl, y3, y4, y5, y6, y7, y8, Or.inr ⟨s, hs6, rfl⟩, y10, y11, fun w => absurd w hsn⟩
      · rw [if_neg c, if_neg c, if_neg c, if_neg c]
        exact ⟨y1, y2, y3, y4, y5, y6, y7, y8, y9, y10, y11, y12⟩
    · intro u hu
      simp only [b'.at 37 (by decide), b'.at 34 (by decide)]
      refine ⟨(nV u hu).1, fun j => ?_⟩
      rw [(nV u hu).2 j, r31]
      by_cases c : j = i
      · rw [if_pos c]
        exact ⟨fun w => absurd c w.2.2.2, fun w => absurd w.2.1 hsn⟩
      · rw [if_neg c]
        exact ⟨fun w => ⟨w.1, w.2.1, w.2.2.1⟩, fun w => ⟨w.1, w.2.1, w.2.2, c⟩⟩
    · intro u hu
      obtain ⟨n1, n2⟩ := nH u hu
      have s25 : σ5 25 u 0 = σ 25 u 0 := a5.at 25 (by decide) u 0
      rw [hhc, a.at 24 (by decide), g7 u hu, s25, n2, hpc, h34, t36, em1, em1]
      exact ⟨n1, rfl⟩
  have hbd := h2.ag b' (by decide)
  have hqu : qu_ ρ13 q := h3.ag b' (by decide) (fun _ w => w)
  have hJ : gJ ρ13 q := by
    refine ⟨fun j hj w u hu w2 => ?_, fun v hv => ?_⟩
    · rw [b'.at 36 (by decide)] at w2
      rw [b'.at 22 (by decide)]
      rw [r31] at w
      by_cases c : j = i
      · rw [if_pos c] at w; exact absurd w hsn
      · rw [if_neg c] at w
        exact h4.1 j hj w u hu w2
    · rw [b'.at 22 (by decide)]; exact h4.2 v hv
  have hK := h5.ag b' (by decide)
  have hL := h6.ag b' (by decide)
  have f1 : fi_ σ ρ σ7 ρ13 q q := ⟨a.mo (by decide), b'.mo (by decide), fun _ _ => rfl, fun u => Or.inl (b'.at 7 (by decide) 0 u)⟩
  have t36' : σ7 36 i 0 = ρ 36 0 i := by rw [a7.at 36 (by decide)]; exact t36
  have eD : F_Desk_conclude i (nI s) y σ = (if (ρ 36 0 i) = (-1) then (some σ7) else (vG (ρ 36 0 i) 16 fun j10 => (vL (ed_st σ7 26 j10 0 1) fun σ14 => (vB1 (F_Desk_release σ14) fun σ16 => (some σ16))))) := by
    unfold F_Desk_conclude
    simp only [vL]
    rw [ed_st_n (show ¬ (2 = 32 ∧ 0 = i ∧ 0 = 0) by omega), ed_st_n (show ¬ (2 = 31 ∧ 0 = i ∧ 0 = 0) by omega), ← hσ5, vB1_at e7, t36']
  have eM : F_Mod_over (nI i) (nI s) y ρ = (if (ρ 36 0 i) < 0 then (some ρ13) else (vB1 (F_Mod_signal (ρ 36 0 i) ρ13) fun σ24 => (some σ24))) := by
    unfold F_Mod_over
    simp only [vG_at hi (show 8 < 2 ^ 31 by omega), vL]
    rw [ed_st_n (show ¬ (50 = 32 ∧ 0 = 0 ∧ 0 = i) by omega), ed_st_n (show ¬ (50 = 31 ∧ 0 = 0 ∧ 0 = i) by omega), ← hρ13, b'.at 36 (by decide)]
  rcases h36 with w | ⟨u, hu, w⟩
  · rw [if_pos w] at eD
    rw [if_pos (by rw [w]; decide)] at eM
    exact ⟨σ7, ρ13, q, eD, eM, ⟨m1, hbd.mo (by omega), hqu, hJ, hK, hL⟩, f1⟩
  · rw [w, if_neg (nI_m1 (by omega)), vG_at hu (by omega)] at eD
    rw [w, if_neg (nI_pos (by omega))] at eM
    have hty := h4.1 i hi h0 u hu w
    have aa : ag_ σ7 (ed_st σ7 26 u 0 1) [26] := ag_.rf.st (by decide)
    have bb : ag_ ρ13 (ed_st ρ13 20 0 u 1) [20] := ag_.rf.st (by decide)
    have m2 : gM (ed_st σ7 26 u 0 1) (ed_st ρ13 20 0 u 1) T P q := m1.ob (aa.mo (by decide)) (bb.mo (by decide)) (fun v hv _ hov => by
      by_cases c : v = u
      · subst c
        exact hov.turn (by rw [b'.at 22 (by decide)]; exact hty) (Or.inr rfl)
      · exact hov.ne c (aa.mo (by decide)) (bb.mo (by decide)) (fun k i' j' hi' => ed_st_n (by omega)) (fun k j' hj' => ed_st_n (by omega)))
    obtain ⟨σ', ρ', q', k1, k2, k3, k4⟩ := zM.rel m2 (hbd.ag bb (by decide)) (hJ.ag bb (by decide) rfl) (hK.ag bb (by decide)) (hL.ag bb (by decide)) hb
    have es : F_Mod_signal (nI u) ρ13 = some ρ' := by
      unfold F_Mod_signal
      rw [vG_at hu (by omega)]
      simp only [vL]
      rw [vB1_at k2]
    simp only [vL] at eD
    rw [vB1_at k1] at eD
    rw [vB1_at es] at eM
    have f2 : fi_ σ7 ρ13 (ed_st σ7 26 u 0 1) (ed_st ρ13 20 0 u 1) q q := ⟨aa.mo (by decide), bb.mo (by decide), fun _ _ => rfl, fun v => Or.inl (bb.at 7 (by decide) 0 v)⟩
    exact ⟨σ', ρ', q', eD, eM, k3, (f1.tr f2).tr (fi_.re k4)⟩
