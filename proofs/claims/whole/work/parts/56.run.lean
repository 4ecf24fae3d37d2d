/-! ===== the pure part: who runs ===== -/
/-- all groups but the one of who runs -/
def gN (σ ρ : ed_S) (T P : Nat) (q : Nat → List Nat) : Prop := gQ σ q ∧ gA σ ρ T P ∧ gT σ ρ T P ∧ gU σ ρ T q ∧ gC ρ T q ∧ gW σ ρ T q ∧ gD ρ T q ∧ gX σ ρ ∧ gV ρ q ∧ gI ρ q ∧ gP σ ρ ∧ gH σ ρ T q ∧ gO σ ρ T q
theorem gN.of {σ ρ : ed_S} {T P : Nat} {q : Nat → List Nat} (h : gM σ ρ T P q) : gN σ ρ T P q := by
  obtain ⟨a, b, c, d, e, f, g, i, j, k, l, m, n, o⟩ := h
  exact ⟨a, b, c, d, f, g, i, j, k, l, m, n, o⟩
theorem gM.of {σ ρ : ed_S} {T P : Nat} {q : Nat → List Nat} (h : gN σ ρ T P q) (e : gR ρ T) : gM σ ρ T P q := by
  obtain ⟨a, b, c, d, f, g, i, j, k, l, m, n, o⟩ := h
  exact ⟨a, b, c, d, e, f, g, i, j, k, l, m, n, o⟩
theorem up_s (q : Nat → List Nat) (r : Nat) (l : List Nat) : va_up q r l r = l := va_up_self q r l
theorem up_n {q : Nat → List Nat} {r x : Nat} {l : List Nat} (h : x ≠ r) : va_up q r l x = q x := va_up_ne q l h
theorem gQ.up {σ σ' : ed_S} {q : Nat → List Nat} {r : Nat} {l : List Nat} (h : gQ σ q) (hf : fr_ σ σ' r) (hl : rw_ σ' r l) : gQ σ' (va_up q r l) := fun x hx => by
  by_cases e : x = r
  · subst e
    rw [up_s]
    exact hl
  · rw [up_n e]
    exact (h x hx).keep hf e
/-- the first of a ready row begins to run -/
theorem s_run {σ ρ : ed_S} {T P p h : Nat} {q : Nat → List Nat} {l : List Nat} (hN : gN σ ρ T P q) (hp : p < 8) (hq : q (8 + p) = h :: l) (hno : ∀ t, t < T → ¬ ρ 7 0 t = 0) :
    ∃ σ' ρ', F_Sched_runFirstOf (nI p) σ = some σ' ∧ F_Mod_run (nI h) ρ = some ρ' ∧ gM σ' ρ' T P (va_up q (8 + p) l) ∧ ag_ σ σ' [5, 6, 7, 10, 18, 39] ∧ ag_ ρ ρ' [7, 44, 45, 49] ∧ h < T ∧ ρ' 44 0 0 = nI h ∧ ρ 6 0 h = nI p ∧ (∀ t, t ≠ h → ρ' 7 0 t = ρ 7 0 t) ∧ ρ 7 0 h = 1 := by
  obtain ⟨nQ, nA, nT, nU, nC, nW, nD, nX, nV, nI', nP, nH, nO⟩ := hN
  obtain ⟨a1, a2, a3, a4, a5, a6, a7, a8, a9, a10, a11, a12, a13⟩ := nA
  have hh := ((nD.1 p hp).2 h).mp (by rw [hq]; exact List.mem_cons_self)
  have hsort := (nD.1 p hp).1
  rw [hq] at hsort
  have hnl : h ∉ l := fun z => lt_irr _ ((List.pairwise_cons.mp hsort).1 h z)
  have hrow := nQ (8 + p) (by omega)
  rw [hq] at hrow
  obtain ⟨σ1, e1, f1, g1⟩ := row_removeFirst hrow
  have hag1 : ag_ σ σ1 [5, 6, 7, 10, 18, 39] := ag_.rf.fr f1 (by decide) (by decide)
  -- the class
  have eC : F_Sched_runFirstOf (nI p) σ = some (if nI h = ρ 45 0 0 then ed_st (ed_st σ1 5 0 0 (nI h)) 10 h 0 0 else ed_st (ed_st (ed_st (ed_st σ1 5 0 0 (nI h)) 10 h 0 0) 6 0 0 (nI h)) 7 0 0 (ρ 49 0 0 + 1)) := by
    unfold F_Sched_runFirstOf
    rw [vG_at hp (by omega), vB2_at e1]
    simp only [vL]
    rw [ed_st_s, vG_at (by omega) (by omega)]
    show (if (ed_st (ed_st σ1 5 0 0 (nI h)) 10 h 0 0) 5 0 0 = (ed_st (ed_st σ1 5 0 0 (nI h)) 10 h 0 0) 6 0 0 then _ else _) = _
    rw [ed_st_n (by omega), ed_st_s, ed_st_n (by omega), ed_st_n (by omega), f1 6 0 0 (by omega), a12]
    by_cases c : nI h = ρ 45 0 0
    · rw [if_pos c, if_pos c]
    · rw [if_neg c, if_neg c]
      show some (ed_st _ 7 0 0 ((ed_st (ed_st (ed_st σ1 5 0 0 (nI h)) 10 h 0 0) 6 0 0 (nI h)) 7 0 0 + 1)) = _
      rw [ed_st_n (by omega), ed_st_n (by omega), ed_st_n (by omega), f1 7 0 0 (by omega), a13]
  have eR : F_Mod_run (nI h) ρ = some (if nI h = ρ 45 0 0 then ed_st (ed_st (ed_st ρ 7 0 h 0) 44 0 0 (nI h)) 45 0 0 (nI h) else ed_st (ed_st (ed_st (ed_st ρ 7 0 h 0) 44 0 0 (nI h)) 49 0 0 (ρ 49 0 0 + 1)) 45 0 0 (nI h)) := by
    unfold F_Mod_run
    rw [vG_at (by omega) (by omega)]
    show (if nI h = (ed_st (ed_st ρ 7 0 h 0) 44 0 0 (nI h)) 45 0 0 then _ else _) = _
    rw [ed_st_n (by omega), ed_st_n (by omega)]
    by_cases c : nI h = ρ 45 0 0
    · rw [if_pos c, if_pos c]
      rfl
    · rw [if_neg c, if_neg c]
      show some (ed_st (ed_st _ 49 0 0 ((ed_st (ed_st ρ 7 0 h 0) 44 0 0 (nI h)) 49 0 0 + 1)) 45 0 0 (nI h)) = _
      rw [ed_st_n (by omega), ed_st_n (by omega)]
  obtain ⟨σ', hσ'⟩ : ∃ z, z = (if nI h = ρ 45 0 0 then ed_st (ed_st σ1 5 0 0 (nI h)) 10 h 0 0 else ed_st (ed_st (ed_st (ed_st σ1 5 0 0 (nI h)) 10 h 0 0) 6 0 0 (nI h)) 7 0 0 (ρ 49 0 0 + 1)) := ⟨_, rfl⟩
  obtain ⟨ρ', hρ'⟩ : ∃ z, z = (if nI h = ρ 45 0 0 then ed_st (ed_st (ed_st ρ 7 0 h 0) 44 0 0 (nI h)) 45 0 0 (nI h) else ed_st (ed_st (ed_st (ed_st ρ 7 0 h 0) 44 0 0 (nI h)) 49 0 0 (ρ 49 0 0 + 1)) 45 0 0 (nI h)) := ⟨_, rfl⟩
  rw [← hσ'] at eC
  rw [← hρ'] at eR
  have hA : ag_ σ σ' [5, 6, 7, 10, 18, 39] := by
    rw [hσ']
    split
    · exact (hag1.st (by decide)).st (by decide)
    · exact (((hag1.st (by decide)).st (by decide)).st (by decide)).st (by decide)
  have hB : ag_ ρ ρ' [7, 44, 45, 49] := by
    rw [hρ']
    split
    · exact ((ag_.rf.st (by decide)).st (by decide)).st (by decide)
    · exact (((ag_.rf.st (by decide)).st (by decide)).st (by decide)).st (by decide)
  have s5 : σ' 5 0 0 = nI h := by rw [hσ']; split <;> simp [ed_st]
  have s10 : ∀ t, σ' 10 t 0 = if t = h then 0 else σ 10 t 0 := fun t => by
    have : σ1 10 t 0 = σ 10 t 0 := f1 10 t 0 (by omega)
    rw [hσ']; split <;> simp [ed_st, this]
  have s6 : σ' 6 0 0 = nI h := by
    rw [hσ']; split
    · rename_i c
      rw [ed_st_n (by omega), ed_st_n (by omega), f1 6 0 0 (by omega), a12, c]
    · simp [ed_st]
  have s7 : σ' 7 0 0 = if nI h = ρ 45 0 0 then ρ 49 0 0 else ρ 49 0 0 + 1 := by
    rw [hσ']; split
    · rw [ed_st_n (by omega), ed_st_n (by omega), f1 7 0 0 (by omega), a13]
    · rw [ed_st_s]
  have r44 : ρ' 44 0 0 = nI h := by rw [hρ']; split <;> simp [ed_st]
  have r45 : ρ' 45 0 0 = nI h := by rw [hρ']; split <;> simp [ed_st]
  have r49 : ρ' 49 0 0 = if nI h = ρ 45 0 0 then ρ 49 0 0 else ρ 49 0 0 + 1 := by rw [hρ']; split <;> simp [ed_st]
  have r7 : ∀ t, ρ' 7 0 t = if t = h then 0 else ρ 7 0 t := fun t => by rw [hρ']; split <;> simp [ed_st]
  have r7n : ∀ t, t ≠ h → ρ' 7 0 t = ρ 7 0 t := fun t ht => by rw [r7, if_neg ht]
  have r72 : ∀ t, t < T → (ρ' 7 0 t = 2 ↔ ρ 7 0 t = 2) := fun t _ => by
    by_cases c : t = h
    · subst c
      rw [r7, if_pos rfl, hh.2.1]
      decide
    · rw [r7n t c]
  have r71 : ∀ t, ρ' 7 0 t = 1 ↔ t ≠ h ∧ ρ 7 0 t = 1 := fun t => by
    by_cases c : t = h
    · subst c
      rw [r7, if_pos rfl]
      exact ⟨fun z => absurd z (by decide), fun z => absurd rfl z.1⟩
    · rw [r7n t c]
      exact ⟨fun z => ⟨c, z⟩, fun z => z.2⟩
  have hp33 : (va_up q (8 + p) l) 33 = q 33 := up_n (by omega)
  have hpc : ∀ o, pc_ ρ' T ((va_up q (8 + p) l) 33).length o = pc_ ρ T (q 33).length o := fun o => by rw [hp33]; exact pc_.ag hB (by decide) r72 o
  have hhc : ∀ o, hc_ ρ' o = hc_ ρ o := fun o => hc_.ag hB (by decide) o
  have mQ : gQ σ' (va_up q (8 + p) l) := by
    have h1 : gQ σ1 (va_up q (8 + p) l) := nQ.up f1 g1
    intro r hr
    have h2 := h1 r hr
    rw [hσ']; split
    · exact (h2.st (by decide) (by decide)).st (by decide) (by decide)
    · exact (((h2.st (by decide) (by decide)).st (by decide) (by decide)).st (by decide) (by decide)).st (by decide) (by decide)
  have mA : gA σ' ρ' T P := by
    refine ⟨a1, a2, ?_, ?_, ?_, ?_, ?_, ?_, ?_, ?_, ?_, ?_, ?_⟩
    · rw [hA.at 0 (by decide)]; exact a3
    · rw [hB.at 42 (by decide)]; exact a4
    · rw [hA.at 1 (by decide)]; exact a5
    · rw [hB.at 43 (by decide)]; exact a6
    · rw [hA.at 2 (by decide), hB.at 50 (by decide)]; exact a7
    · rw [hA.at 3 (by decide), hB.at 46 (by decide)]; exact a8
    · rw [hA.at 4 (by decide), hB.at 47 (by decide)]; exact a9
    · rw [hB.at 47 (by decide)]; exact a10
    · rw [s5, r44]
    · rw [s6, r45]
    · rw [s7, r49]
  have mT : gT σ' ρ' T P := fun t ht => by
    obtain ⟨b1, b2, b3, b4, b5, b6, b7, b8, b9⟩ := nT t ht
    rw [hA.at 8 (by decide), hA.at 9 (by decide), hA.at 11 (by decide), hA.at 12 (by decide), hA.at 13 (by decide), hA.at 14 (by decide), hB.at 5 (by decide), hB.at 6 (by decide), hB.at 8 (by decide), hB.at 10 (by decide), hB.at 11 (by decide), hB.at 12 (by decide), s10, r7, b3]
    exact ⟨b1, b2, rfl, b4, b5, b6, b7, b8, b9⟩
  have mU : gU σ' ρ' T (va_up q (8 + p) l) := fun t ht ht8 => by
    have := (nU.ag hA hB (by decide) (by decide)) t ht ht8
    rw [up_n (by omega)]
    exact this
  have mR : gR ρ' T := Or.inr ⟨h, hh.1, r44, fun u hu => by
    by_cases c : u = h
    · subst c
      rw [r7, if_pos rfl]
      exact ⟨fun _ => rfl, fun _ => rfl⟩
    · rw [r7n u c]
      exact ⟨fun z => absurd z (hno u hu), fun z => absurd z c⟩⟩
  have mC : gC ρ' T (va_up q (8 + p) l) := fun t ht => by
    have := (nC.ag hB (by decide)) t ht
    rw [up_n (by omega)]
    exact this
  have mW : gW σ' ρ' T (va_up q (8 + p) l) := by
    obtain ⟨w1, w2, w3, w4⟩ := nW
    refine ⟨?_, fun t => ?_, fun t ht h2 => ?_, fun t ht h2 => ?_⟩
    · rw [up_n (by omega)]
      simp only [hB.at 15 (by decide)]
      exact w1
    · rw [up_n (by omega), w2 t]
      exact ⟨fun z => ⟨z.1, (r72 t z.1).mpr z.2⟩, fun z => ⟨z.1, (r72 t z.1).mp z.2⟩⟩
    · have := w3 t ht ((r72 t ht).mp h2)
      simp only [hA.at 15 (by decide), hA.at 16 (by decide), hA.at 17 (by decide), hA.at 40 (by decide), hB.at 13 (by decide), hB.at 14 (by decide), hB.at 15 (by decide), hB.at 17 (by decide), hB.at 22 (by decide), hB.at 51 (by decide), pl_]
      exact this
    · rw [hB.at 13 (by decide)]
      exact w4 t ht (fun z => h2 ((r72 t ht).mpr z))
  have mD : gD ρ' T (va_up q (8 + p) l) := by
    refine ⟨fun x hx => ⟨?_, fun t => ?_⟩, fun t ht h1 => ?_⟩
    · simp only [hB.at 16 (by decide)]
      by_cases c : x = p
      · subst c
        rw [up_s]
        exact (List.pairwise_cons.mp hsort).2
      · rw [up_n (by omega)]
        exact (nD.1 x hx).1
    · rw [hB.at 6 (by decide), r71]
      by_cases c : x = p
      · subst c
        rw [up_s]
        have hm := (nD.1 x hx).2 t
        rw [hq] at hm
        constructor
        · intro z
          have z2 := hm.mp (List.mem_cons_of_mem _ z)
          exact ⟨z2.1, ⟨fun w => hnl (w ▸ z), z2.2.1⟩, z2.2.2⟩
        · intro z
          rcases List.mem_cons.mp (hm.mpr ⟨z.1, z.2.1.2, z.2.2⟩) with w | w
          · exact absurd w z.2.1.1
          · exact w
      · rw [up_n (by omega), (nD.1 x hx).2 t]
        constructor
        · intro z
          refine ⟨z.1, ⟨fun w => ?_, z.2.1⟩, z.2.2⟩
          subst w
          rw [hh.2.2] at z
          exact c ((nI_eq (by omega) (by omega)).mp z.2.2).symm
        · intro z
          exact ⟨z.1, z.2.1.2, z.2.2⟩
    · rw [hB.at 16 (by decide), hB.at 51 (by decide), hB.at 52 (by decide)]
      exact nD.2 t ht ((r71 t).mp h1).2
  have mV : gV ρ' (va_up q (8 + p) l) := fun o ho => by
    have := (nV.ag hB (by decide)) o ho
    rw [up_n (by omega)]
    exact this
  have mI : gI ρ' (va_up q (8 + p) l) := by
    have := nI'.ag hB (by decide)
    unfold gI at *
    rw [hp33]
    exact this
  exact ⟨σ', ρ', eC, eR, ⟨mQ, mA, mT, mU, mR, mC, mW, mD, nX.ag hA hB (by decide) (by decide), mV, mI, nP.ag hA hB (by decide) (by decide), nH.ag hA (by decide) hhc hpc, nO.ag hA hB (by decide) (by decide) hhc hpc⟩, hA, hB, hh.1, r44, hh.2.2, r7n, hh.2.1⟩
