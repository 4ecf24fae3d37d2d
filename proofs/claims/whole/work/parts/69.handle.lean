/-! ===== the pure part: who runs, its handles ===== -/
theorem g_run {σ ρ : ed_S} {T P : Nat} {q : Nat → List Nat} (m : gM σ ρ T P q) : (σ 5 0 0 = -1 ∧ ρ 44 0 0 = -1) ∨ ∃ t p, t < T ∧ t < 8 ∧ p < 4 ∧ ρ 44 0 0 = nI t ∧ σ 5 0 0 = nI t ∧ ρ 5 0 t = nI p ∧ σ 8 t 0 = nI p ∧ ρ 7 0 t = 0 ∧ F_Desk_processOfRunning σ = some (p, σ) ∧ hd_ σ ρ p := by
  obtain ⟨nQ, nA, nT, nU, nR, nC, nW, nD, nX, nV, nI', nP, nH, nO⟩ := m
  obtain ⟨a1, a2, a3, a4, a5, a6, a7, a8, a9, a10, a11, a12, a13⟩ := nA
  rcases nR with ⟨h1, h2⟩ | ⟨t, ht, h1, h2⟩
  · exact Or.inl ⟨by rw [a11, h1], h1⟩
  · obtain ⟨b1, b2, b3, b4, b5, b6, b7, ⟨p, hp, b8⟩, b9⟩ := nT t ht
    refine Or.inr ⟨t, p, ht, by omega, by omega, h1, by rw [a11, h1], b8, by rw [b1, b8], (h2 t ht).mpr rfl, ?_, (nP p (by omega)).2.2.2⟩
    unfold F_Desk_processOfRunning
    rw [a11, h1, vG_at (by omega) (by omega), b1, b8, vG_at (by omega) (by omega)]
theorem hc_th {ρ : ed_S} {T k o : Nat} {q : Nat → List Nat} (hk : k < 32) (h : ρ 3 0 k = nI o) : ¬ hc_ ρ (nI o) = 0 ∧ th_ ρ T q o := by
  have : 0 < hc_ ρ (nI o) := cn_pos (k := k) hk (by simp [h])
  exact ⟨by omega, fun z => by omega⟩
/-- a handle of who runs -/
theorem h_of {σ ρ : ed_S} {p t : Nat} (hp : p < 4) (ht : t < 8) (hr : ρ 44 0 0 = nI t) (hh : ρ 5 0 t = nI p) (H : hd_ σ ρ p) (x : Int32) : (F_Proc_objectOf p x σ = some (-1, σ) ∧ F_Mod_isHandle x ρ = some (0, ρ)) ∨ ∃ h o, h < 8 ∧ o < 16 ∧ x = nI h ∧ σ 41 p h = nI o ∧ ρ 3 0 (8 * p + h) = nI o ∧ F_Proc_objectOf p x σ = some (nI o, σ) ∧ F_Mod_isHandle x ρ = some (1, ρ) ∧ F_Mod_objectOf x ρ = some (nI o, ρ) ∧ ∀ w, ∃ y, (y = 0 ∨ y = 1) ∧ F_Proc_lacks p x w σ = some (y, σ) ∧ F_Mod_lacks x w ρ = some (y, ρ) := by
  have e1 : F_Proc_objectOf p x σ = if iw_ x 0 7 = 0 then some (-1, σ) else vG x 8 fun j5 => some (σ 41 p j5, σ) := by
    unfold F_Proc_objectOf
    rw [vB2_at (d_is _ _ _ _)]
  have e2 : F_Mod_isHandle x ρ = if iw_ x 0 7 = 0 then some (0, ρ) else vG (8 * nI p + x) 32 fun j9 => if ρ 3 0 j9 < 0 then some (0, ρ) else some (1, ρ) := by
    unfold F_Mod_isHandle
    rw [vB2_at (m_is _ _ _ _), hr, vG_at ht (by omega), hh]
  rcases iw_c (x := x) (b := 7) (n := 8) (by decide) (by omega) with h | ⟨j, hj, rfl, h⟩
  · rw [if_pos h] at e1 e2
    exact Or.inl ⟨e1, e2⟩
  · obtain ⟨g1, g2, g3⟩ := H j hj
    rw [if_neg h, vG_at hj (by omega), g1] at e1
    rw [if_neg h, ix8, vG_at (by omega) (by omega)] at e2
    rw [g1] at g3
    rcases g3 with z | ⟨o, ho, z⟩
    · rw [z] at e1 e2
      rw [if_pos (by decide)] at e2
      exact Or.inl ⟨e1, e2⟩
    · rw [z] at e1 e2
      rw [if_neg (nI_pos (by omega))] at e2
      refine Or.inr ⟨j, o, hj, ho, rfl, by rw [g1, z], z, e1, e2, ?_, fun w => ?_⟩
      · unfold F_Mod_objectOf
        rw [hr, vG_at ht (by omega), hh, ix8, vG_at (by omega) (by omega), z]
      · refine ⟨if ρ 4 0 (8 * p + j) &&& w = 0 then 1 else 0, by split <;> simp, ?_, ?_⟩
        · unfold F_Proc_lacks
          rw [vB2_at e1, if_neg (nI_m1 (by omega))]
          have e3 : F_Proc_rightsOf p (nI j) σ = some (σ 42 p j, σ) := by
            unfold F_Proc_rightsOf
            rw [vB2_at (d_is _ _ _ _), if_neg h, vG_at hj (by omega)]
          rw [vB2_at e3, g2]
          by_cases c : ρ 4 0 (8 * p + j) &&& w = 0
          · rw [if_pos c, if_pos c]
          · rw [if_neg c, if_neg c]
        · unfold F_Mod_lacks
          rw [hr, vG_at ht (by omega), hh, ix8, vG_at (by omega) (by omega)]
          by_cases c : ρ 4 0 (8 * p + j) &&& w = 0
          · rw [if_pos c, if_pos c]
          · rw [if_neg c, if_neg c]
theorem hc_st {ρ ρ' : ed_S} {k : Nat} {v : Int32} (hk : k < 32) (h1 : ρ' 3 0 k = v) (h2 : ∀ j, j ≠ k → ρ' 3 0 j = ρ 3 0 j) (o : Int32) : hc_ ρ' o + (if ρ 3 0 k = o then 1 else 0) = hc_ ρ o + (if v = o then 1 else 0) := by
  have := cn_upd (n := 32) (c := fun q => decide (ρ' 3 0 q = o)) (d := fun q => decide (ρ 3 0 q = o)) hk (fun j _ hj => by simp [h2 j hj])
  simp only [h1, decide_eq_true_eq] at this
  exact this
/-- a handle is given -/
theorem g_give {σ ρ : ed_S} {T P p t h o : Nat} {r : Int32} {q : Nat → List Nat} (m : gM σ ρ T P q) (hp : p < 4) (ht : t < 8) (hr : ρ 44 0 0 = nI t) (hh : ρ 5 0 t = nI p) (h8 : h < 8) (ho : o < 16) (h41 : σ 41 p h = -1) (hob : ob_ σ ρ o) (hnm : σ 23 o 0 = ρ 23 0 o) :
    ∃ σ' ρ', F_Desk_giveHandle p (nI h) (nI o) r σ = some σ' ∧ F_Mod_use (nI h) (nI o) r ρ = some (nI h, ρ') ∧ gM σ' ρ' T P q ∧ ag_ σ σ' [24, 41, 42] ∧ ag_ ρ ρ' [3, 4] ∧ ((∀ u, u < 16 → u ≠ o → (ρ 19 0 u = 1 ↔ th_ ρ T q u) ∧ (th_ ρ T q u → hc_ ρ (nI u) = 0 → ρ 23 0 u = -1)) → ti_ ρ' T q) := by
  obtain ⟨nQ, nA, nT, nU, nR, nC, nW, nD, nX, nV, nI', nP, nH, nO⟩ := m
  obtain ⟨g1, g2, g3⟩ := (nP p hp).2.2.2 h h8
  have h3 : ρ 3 0 (8 * p + h) = -1 := by rw [← g1]; exact h41
  obtain ⟨σ', hσ'⟩ : ∃ z, z = ed_st (ed_st (ed_st σ 41 p h (nI o)) 42 p h r) 24 o 0 (σ 24 o 0 + 1) := ⟨_, rfl⟩
  obtain ⟨ρ', hρ'⟩ : ∃ z, z = ed_st (ed_st ρ 3 0 (8 * p + h) (nI o)) 4 0 (8 * p + h) r := ⟨_, rfl⟩
  have hA : ag_ σ σ' [24, 41, 42] := by rw [hσ']; exact ((ag_.rf.st (by decide)).st (by decide)).st (by decide)
  have hB : ag_ ρ ρ' [3, 4] := by rw [hρ']; exact (ag_.rf.st (by decide)).st (by decide)
  have r3 : ρ' 3 0 (8 * p + h) = nI o := by rw [hρ', ed_st_n (by omega), ed_st_s]
  have r3n : ∀ j, j ≠ 8 * p + h → ρ' 3 0 j = ρ 3 0 j := fun j hj => by rw [hρ', ed_st_n (by omega), ed_st_n (by omega)]
  have hhc : ∀ u, u < 16 → hc_ ρ' (nI u) = hc_ ρ (nI u) + if u = o then 1 else 0 := fun u hu => by
    have := hc_st (by omega) r3 r3n (nI u)
    rw [h3, if_neg (fun z => nI_m1 (show u < 2 ^ 31 by omega) z.symm)] at this
    rw [Nat.add_zero] at this
    rw [this]
    by_cases c : u = o
    · rw [if_pos (by rw [c]), if_pos c]
    · rw [if_neg (fun z => c ((nI_eq (by omega) (by omega)).mp z).symm), if_neg c]
  have hpc : ∀ u, pc_ ρ' T (q 33).length u = pc_ ρ T (q 33).length u := fun u => pc_.ag hB (by decide) (fun t _ => by rw [hB.at 7 (by decide)]) u
  have hth : ∀ u, u < 16 → u ≠ o → (th_ ρ' T q u ↔ th_ ρ T q u) := fun u hu hne => by
    unfold th_
    rw [hhc u hu, hpc, if_neg hne]
    rfl
  have htho : th_ ρ' T q o := fun z => by
    have := hhc o ho
    rw [if_pos rfl] at this
    omega
  refine ⟨σ', ρ', ?_, ?_, ⟨nQ.ag hA (by decide), nA.ag hA hB (by decide) (by decide), nT.ag hA hB (by decide) (by decide), nU.ag hA hB (by decide) (by decide), nR.ag hB (by decide), nC.ag hB (by decide), nW.ag hA hB (by decide) (by decide), nD.ag hB (by decide), nX.ag hA hB (by decide) (by decide), nV.ag hB (by decide), nI'.ag hB (by decide), ?_, ?_, ?_⟩, hA, hB, ?_⟩
  · unfold F_Desk_giveHandle
    rw [vG_at h8 (by omega)]
    simp only [vL]
    rw [vG_at h8 (by omega), vG_at ho (by omega)]
    rw [hσ', ed_st_n (show ¬ (24 = 42 ∧ o = p ∧ 0 = h) by omega), ed_st_n (show ¬ (24 = 41 ∧ o = p ∧ 0 = h) by omega)]
  · unfold F_Mod_use
    rw [hr, vG_at ht (by omega), hh, ix8, vG_at (by omega) (by omega)]
    simp only [vL]
    rw [ed_st_n (show ¬ (44 = 3 ∧ 0 = 0 ∧ 0 = 8 * p + h) by omega), hr, vG_at ht (by omega), ed_st_n (show ¬ (5 = 3 ∧ 0 = 0 ∧ t = 8 * p + h) by omega), hh, ix8, vG_at (by omega) (by omega), hρ']
  · intro u hu
    obtain ⟨b1, b2, b3, b4⟩ := nP u hu
    rw [hA.at 19 (by decide), hA.at 20 (by decide), hA.at 21 (by decide), hB.at 0 (by decide), hB.at 1 (by decide), hB.at 2 (by decide)]
    refine ⟨b1, b2, b3, fun k hk => ?_⟩
    obtain ⟨c1, c2, c3⟩ := b4 k hk
    by_cases c : u = p ∧ k = h
    · obtain ⟨c, c'⟩ := c
      subst c; subst c'
      have s41 : σ' 41 u k = nI o := by rw [hσ', ed_st_n (by omega), ed_st_n (by omega), ed_st_s]
      have s42 : σ' 42 u k = r := by rw [hσ', ed_st_n (by omega), ed_st_s]
      have r4 : ρ' 4 0 (8 * u + k) = r := by rw [hρ', ed_st_s]
      exact ⟨by rw [s41, r3], by rw [s42, r4], by rw [s41]; exact Or.inr ⟨o, ho, rfl⟩⟩
    · have s41 : σ' 41 u k = σ 41 u k := by rw [hσ', ed_st_n (by omega), ed_st_n (by omega), ed_st_n (by omega)]
      have s42 : σ' 42 u k = σ 42 u k := by rw [hσ', ed_st_n (by omega), ed_st_n (by omega), ed_st_n (by omega)]
      have r4 : ρ' 4 0 (8 * u + k) = ρ 4 0 (8 * u + k) := by rw [hρ', ed_st_n (by omega), ed_st_n (by omega)]
      rw [s41, s42, r4, r3n _ (by omega)]
      exact ⟨c1, c2, c3⟩
  · intro u hu
    obtain ⟨b1, b2⟩ := nH u hu
    rw [hhc u hu, hpc, hA.at 25 (by decide)]
    refine ⟨?_, b2⟩
    by_cases c : u = o
    · subst c
      rw [if_pos rfl, hσ', ed_st_s, b1, nI_1]
    · rw [if_neg c, hσ', ed_st_n (by omega), ed_st_n (by omega), ed_st_n (by omega), b1]
      rfl
  · refine ⟨fun u hu => by rw [hB.at 19 (by decide)]; exact nO.1 u hu, fun u hu hu2 => ?_⟩
    by_cases c : u = o
    · subst c
      refine ⟨hob.ag hA hB (by decide) (by decide), fun _ => ?_⟩
      rw [hA.at 23 (by decide), hB.at 23 (by decide)]
      exact hnm
    · have ht2 := (hth u hu c).mp hu2
      obtain ⟨x, y⟩ := nO.2 u hu ht2
      refine ⟨x.ag hA hB (by decide) (by decide), fun z => ?_⟩
      rw [hhc u hu, if_neg c] at z
      rw [hA.at 23 (by decide), hB.at 23 (by decide)]
      exact y z
  · intro hti u hu
    by_cases c : u = o
    · subst c
      refine ⟨⟨fun _ => htho, fun _ => by rw [hB.at 19 (by decide)]; exact hob.1⟩, fun _ z => ?_⟩
      rw [hhc u hu, if_pos rfl] at z
      omega
    · obtain ⟨y1, y2⟩ := hti u hu c
      rw [hth u hu c, hhc u hu, if_neg c, hB.at 19 (by decide), hB.at 23 (by decide)]
      exact ⟨y1, fun z w => y2 z w⟩
/-- a handle is dropped -/
theorem g_drop {σ ρ : ed_S} {T P p h o : Nat} {q : Nat → List Nat} (m : gM σ ρ T P q) (hp : p < 4) (h8 : h < 8) (ho : o < 16) (h3 : ρ 3 0 (8 * p + h) = nI o) :
    ∃ σ', F_Desk_dropHandle p (nI h) σ = some σ' ∧ gM σ' (ed_st ρ 3 0 (8 * p + h) (-1)) T P q ∧ ag_ σ σ' [24, 41] ∧ ag_ ρ (ed_st ρ 3 0 (8 * p + h) (-1)) [3] ∧ σ' 24 o 0 = nI (hc_ (ed_st ρ 3 0 (8 * p + h) (-1)) (nI o)) := by
  obtain ⟨nQ, nA, nT, nU, nR, nC, nW, nD, nX, nV, nI', nP, nH, nO⟩ := m
  obtain ⟨g1, g2, g3⟩ := (nP p hp).2.2.2 h h8
  have h41 : σ 41 p h = nI o := by rw [g1]; exact h3
  obtain ⟨σ', hσ'⟩ : ∃ z, z = ed_st (ed_st σ 24 o 0 (σ 24 o 0 - 1)) 41 p h (-1) := ⟨_, rfl⟩
  obtain ⟨ρ', hρ'⟩ : ∃ z, z = ed_st ρ 3 0 (8 * p + h) (-1) := ⟨_, rfl⟩
  rw [← hρ']
  have hA : ag_ σ σ' [24, 41] := by rw [hσ']; exact (ag_.rf.st (by decide)).st (by decide)
  have hB : ag_ ρ ρ' [3] := by rw [hρ']; exact ag_.rf.st (by decide)
  have r3 : ρ' 3 0 (8 * p + h) = -1 := by rw [hρ', ed_st_s]
  have r3n : ∀ j, j ≠ 8 * p + h → ρ' 3 0 j = ρ 3 0 j := fun j hj => by rw [hρ', ed_st_n (by omega)]
  have hhc : ∀ u, u < 16 → hc_ ρ' (nI u) + (if u = o then 1 else 0) = hc_ ρ (nI u) := fun u hu => by
    have := hc_st (by omega) r3 r3n (nI u)
    rw [h3, if_neg (c := (-1 : Int32) = nI u) (fun z => nI_m1 (show u < 2 ^ 31 by omega) z.symm), Nat.add_zero] at this
    rw [← this]
    by_cases c : u = o
    · rw [if_pos c, if_pos (by rw [c])]
    · rw [if_neg c, if_neg (fun z => c ((nI_eq (by omega) (by omega)).mp z).symm)]
  have hpc : ∀ u, pc_ ρ' T (q 33).length u = pc_ ρ T (q 33).length u := fun u => pc_.ag hB (by decide) (fun t _ => by rw [hB.at 7 (by decide)]) u
  have s24 : ∀ u, u < 16 → σ' 24 u 0 = nI (hc_ ρ' (nI u)) := fun u hu => by
    obtain ⟨b1, b2⟩ := nH u hu
    have := hhc u hu
    by_cases c : u = o
    · subst c
      rw [if_pos rfl] at this
      rw [hσ', ed_st_n (by omega), ed_st_s, b1, ← this, nI_pred]
    · rw [if_neg c, Nat.add_zero] at this
      rw [hσ', ed_st_n (by omega), ed_st_n (by omega), b1, this]
  refine ⟨σ', ?_, ⟨nQ.ag hA (by decide), nA.ag hA hB (by decide) (by decide), nT.ag hA hB (by decide) (by decide), nU.ag hA hB (by decide) (by decide), nR.ag hB (by decide), nC.ag hB (by decide), nW.ag hA hB (by decide) (by decide), nD.ag hB (by decide), nX.ag hA hB (by decide) (by decide), nV.ag hB (by decide), nI'.ag hB (by decide), ?_, ?_, ?_⟩, hA, hB, s24 o ho⟩
  · unfold F_Desk_dropHandle
    rw [vG_at h8 (by omega), h41, vG_at ho (by omega)]
    simp only [vL]
    rw [vG_at h8 (by omega), hσ']
  · intro u hu
    obtain ⟨b1, b2, b3, b4⟩ := nP u hu
    rw [hA.at 19 (by decide), hA.at 20 (by decide), hA.at 21 (by decide), hB.at 0 (by decide), hB.at 1 (by decide), hB.at 2 (by decide)]
    refine ⟨b1, b2, b3, fun k hk => ?_⟩
    obtain ⟨c1, c2, c3⟩ := b4 k hk
    rw [hA.at 42 (by decide), hB.at 4 (by decide)]
    by_cases c : u = p ∧ k = h
    · obtain ⟨c, c'⟩ := c
      subst c; subst c'
      have s41 : σ' 41 u k = -1 := by rw [hσ', ed_st_s]
      exact ⟨by rw [s41, r3], c2, by rw [s41]; exact Or.inl rfl⟩
    · have s41 : σ' 41 u k = σ 41 u k := by rw [hσ', ed_st_n (by omega), ed_st_n (by omega)]
      rw [s41, r3n _ (by omega)]
      exact ⟨c1, c2, c3⟩
  · intro u hu
    rw [s24 u hu, hpc, hA.at 25 (by decide)]
    exact ⟨rfl, (nH u hu).2⟩
  · refine ⟨fun u hu => by rw [hB.at 19 (by decide)]; exact nO.1 u hu, fun u hu hu2 => ?_⟩
    have hle : hc_ ρ' (nI u) ≤ hc_ ρ (nI u) := by have := hhc u hu; omega
    have ht2 : th_ ρ T q u := fun z => hu2 ⟨by omega, by rw [hpc]; exact z.2⟩
    obtain ⟨x, y⟩ := nO.2 u hu ht2
    refine ⟨x.ag hA hB (by decide) (by decide), fun z => ?_⟩
    rw [hA.at 23 (by decide), hB.at 23 (by decide)]
    exact y (by omega)
