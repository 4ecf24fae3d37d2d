/-! ===== the pure part: await ===== -/
theorem ag_.sy {σ σ' : ed_S} {L : List Nat} (h : ag_ σ σ' L) : ag_ σ' σ L := fun k i j q => (h k i j q).symm
theorem sat_mono' {ρ ρ' : ed_S} {t : Nat} (h14 : ρ' 14 0 t = ρ 14 0 t) (h17 : ∀ j, j < 3 → ρ' 17 0 (3 * t + j) = ρ 17 0 (3 * t + j)) (h : ∀ j o, j < 3 → o < 16 → ρ 17 0 (3 * t + j) = nI o → sg_ ρ' o t → sg_ ρ o t) (s : sat_ ρ' t) : sat_ ρ t := by
  have sk : ∀ j, j < 3 → sk_ ρ' t j → sk_ ρ t j := fun j hj z => by
    obtain ⟨o, z1, z2, z3⟩ := z
    rw [h17 j hj] at z2
    exact ⟨o, z1, z2, h j o hj z1 z2 z3⟩
  unfold sat_ at *
  rw [h14] at s
  rcases s with ⟨z1, j, z2, z3⟩ | ⟨z1, z2⟩
  · exact Or.inl ⟨z1, j, z2, sk j z2 z3⟩
  · exact Or.inr ⟨z1, fun j hj z => sk j hj (z2 j hj (by rw [h17 j hj]; exact z))⟩
theorem sg_.ag {ρ ρ' : ed_S} {L' : List Nat} {o t : Nat} (b : ag_ ρ ρ' L') (h2 : ∀ k ∈ [20, 22, 24, 25], k ∉ L') : sg_ ρ' o t ↔ sg_ ρ o t := by
  unfold sg_
  rw [b.at 20 (h2 20 (by decide)), b.at 22 (h2 22 (by decide)), b.at 24 (h2 24 (by decide)), b.at 25 (h2 25 (by decide))]
/-- the wish of t, which does not wait -/
theorem gM.wish {σ ρ σ' ρ' : ed_S} {T P t : Nat} {q : Nat → List Nat} (m : gM σ ρ T P q) (h0 : ¬ ρ 7 0 t = 2) (a : ∀ k i j, ¬ (k ∈ [15, 16, 40] ∧ i = t) → σ' k i j = σ k i j) (b : ∀ k i j, ¬ ((k = 14 ∧ j = t) ∨ (k = 17 ∧ j / 3 = t)) → ρ' k i j = ρ k i j) : gM σ' ρ' T P q ∧ ag_ σ σ' [15, 16, 40] ∧ ag_ ρ ρ' [14, 17] ∧ (qu_ ρ q → qu_ ρ' q) ∧ (na_ ρ T q → na_ ρ' T q) := by
  have hA : ag_ σ σ' [15, 16, 40] := fun k i j hk => a k i j (fun z => hk z.1)
  have hB : ag_ ρ ρ' [14, 17] := fun k i j hk => b k i j (fun z => by
    rcases z with z | z
    · exact hk (by rw [z.1]; decide)
    · exact hk (by rw [z.1]; decide))
  obtain ⟨nQ, nA, nT, nU, nR, nC, nW, nD, nX, nV, nI', nP, nH, nO⟩ := m
  have hhc : ∀ o, hc_ ρ' o = hc_ ρ o := fun o => hc_.ag hB (by decide) o
  have hpc : ∀ o, pc_ ρ' T (q 33).length o = pc_ ρ T (q 33).length o := fun o => by
    unfold pc_
    rw [cn_congr (c := pw_ ρ' o) (d := pw_ ρ o) (fun j hj => by
      unfold pw_
      rw [hB.at 7 (by decide)]
      by_cases c : j / 3 = t
      · rw [c]; simp [h0]
      · rw [b 17 0 j (fun z => by rcases z with z | z; exact absurd z.1 (by decide); exact c z.2)]), cn_congr (c := pd_ ρ' o) (d := pd_ ρ o) (fun j _ => by simp only [pd_, hB.at 31 (by decide), hB.at 34 (by decide)]), cn_congr (c := ps_ ρ' o) (d := ps_ ρ o) (fun j _ => by simp only [ps_, hB.at 31 (by decide), hB.at 36 (by decide)]), cn_congr (c := pi_ ρ' o) (d := pi_ ρ o) (fun j _ => by simp only [pi_, hB.at 40 (by decide)])]
  have r14 : ∀ u, u ≠ t → ρ' 14 0 u = ρ 14 0 u := fun u hu => b 14 0 u (fun z => by rcases z with z | z; exact hu z.2; exact absurd z.1 (by decide))
  have r17 : ∀ u k, k < 3 → u ≠ t → ρ' 17 0 (3 * u + k) = ρ 17 0 (3 * u + k) := fun u k hk hu => b 17 0 _ (fun z => by rcases z with z | z; exact absurd z.1 (by decide); omega)
  have sne : ∀ k u j, u ≠ t → σ' k u j = σ k u j := fun k u j hu => a k u j (fun z => hu z.2)
  have hne : ∀ u, ρ 7 0 u = 2 → u ≠ t := fun u hu z => by subst z; exact h0 hu
  refine ⟨⟨nQ.ag hA (by decide), nA.ag hA hB (by decide) (by decide), nT.ag hA hB (by decide) (by decide), nU.ag hA hB (by decide) (by decide), nR.ag hB (by decide), nC.ag hB (by decide), ?_, nD.ag hB (by decide), nX.ag hA hB (by decide) (by decide), nV.ag hB (by decide), nI'.ag hB (by decide), nP.ag hA hB (by decide) (by decide), nH.ag hA (by decide) hhc hpc, nO.ag hA hB (by decide) (by decide) hhc hpc⟩, hA, hB, ?_, ?_⟩
  · obtain ⟨w1, w2, w3, w4⟩ := nW
    refine ⟨?_, ?_, fun u hu h2 => ?_, ?_⟩
    · simp only [hB.at 15 (by decide)]; exact w1
    · simp only [hB.at 7 (by decide)]; exact w2
    · rw [hB.at 7 (by decide)] at h2
      have c := hne u h2
      obtain ⟨v1, v2, v3, v4, v5, v6, ⟨v7, v8⟩⟩ := w3 u hu h2
      rw [hB.at 15 (by decide), hB.at 51 (by decide), hB.at 13 (by decide), r14 u c, sne 17 u 0 c, sne 15 u 0 c, sne 16 u 0 c]
      refine ⟨v1, v2, v3, v4, v5, v6, fun k hk => ?_, fun k k' hk hk' hkk hs => ?_⟩
      · rw [sne 40 u k c, r17 u k hk c]
        simp only [hB.at 22 (by decide)]
        exact v7 k hk
      · rw [sne 40 u k c, sne 40 u k' c] at hs
        rw [sne 40 u k c]
        exact v8 k k' hk hk' hkk hs
    · simp only [hB.at 7 (by decide), hB.at 13 (by decide)]; exact w4
  · intro hu u hm s
    have c := hne u ((nW.2.1 u).mp hm).2
    exact hu u hm (sat_mono' (r14 u c) (fun j hj => r17 u j hj c) (fun j o _ _ _ z => (sg_.ag hB (by decide)).mp z) s)
  · intro hn u hu h2 h14
    rw [hB.at 7 (by decide)] at h2
    rw [r14 u (hne u h2)] at h14
    exact hn u hu h2 h14
theorem ep1 (n : Nat) (c : Prop) [Decidable c] : nI n + (if c then (1 : Int32) else 0) = nI (n + if c then 1 else 0) := by
  by_cases h : c
  · rw [if_pos h, if_pos h, nI_1]
  · rw [if_neg h, if_neg h, Int32.add_zero, Nat.add_zero]
/-- t, which runs, begins to wait -/
theorem s_wait {σ ρ : ed_S} {T P t : Nat} {q : Nat → List Nat} {d : Int32} (m : gM σ ρ T P q) (ht : t < T) (hr : ρ 44 0 0 = nI t) (pl : pl_ σ ρ t) (hth : ∀ k o, k < 3 → o < 16 → ρ 17 0 (3 * t + k) = nI o → ¬ hc_ ρ (nI o) = 0) (h15 : σ 15 t 0 = 0 ↔ ρ 14 0 t &&& 1 = 0) (h16 : σ 16 t 0 = 0 ↔ ρ 14 0 t < 2) (hw : nw_ ρ) (hd : d = -1 ∨ 0 ≤ d) :
    ∃ σ' ρ', (vB1 (F_Row_addLast 32 (nI t) (ed_st (ed_st (ed_st (ed_st (ed_st σ 10 t 0 2) 11 t 0 (-10)) 14 t 0 0) 17 t 0 d) 5 0 0 (-1))) fun σ24 => (vB1 (F_Desk_pointToPlacesOf t 1 σ24) fun σ26 => (some σ26))) = some σ' ∧ ρ' = ed_st (ed_st (ed_st (ed_st (ed_st (ed_st (ed_st ρ 7 0 t 2) 44 0 0 (-1)) 8 0 t (-10)) 13 0 t d) 12 0 t 0) 51 0 0 (ρ 51 0 0 + 1)) 15 0 t (ρ 51 0 0 + 1) ∧ gM σ' ρ' T P (va_up q 32 (q 32 ++ [t])) ∧ ag_ σ σ' [5, 10, 11, 14, 17, 18, 25, 39] ∧ ag_ ρ ρ' [7, 8, 12, 13, 15, 44, 51] ∧ (∀ u, u ≠ t → ρ' 7 0 u = ρ 7 0 u) ∧ ρ' 51 0 0 = ρ 51 0 0 + 1 := by
  have hT8 := m.2.1.2.1
  have ht8 : t < 8 := by omega
  obtain ⟨nQ, nA, nT, nU, nR, nC, nW, nD, nX, nV, nI', nP, nH, nO⟩ := m
  have hrun : ∀ u, u < T → (ρ 7 0 u = 0 ↔ u = t) := by
    rcases nR with ⟨z, _⟩ | ⟨t', ht', z, z2⟩
    · rw [hr] at z; exact absurd z (nI_m1 (by omega))
    · rw [hr] at z
      have := (nI_eq (by omega) (by omega)).mp z
      subst this
      exact z2
  have h0 : ρ 7 0 t = 0 := (hrun t ht).mpr rfl
  have htq : t ∉ q 32 := fun z => by
    have := ((nW.2.1 t).mp z).2
    rw [h0] at this
    exact absurd this (by decide)
  have hcap : (q 32).length < ed_cap 32 := by
    have h1 : (t :: q 32).length ≤ 8 := nd_len 8 _ (List.nodup_cons.mpr ⟨htq, pw_nd nW.1⟩) (fun y hy => by
      rcases List.mem_cons.mp hy with e | e
      · omega
      · have := ((nW.2.1 y).mp e).1
        omega)
    simp only [List.length_cons] at h1
    have h2 : ed_cap 32 = 8 := if_neg (by omega)
    omega
  obtain ⟨σ1, hσ1⟩ : ∃ z, z = ed_st (ed_st (ed_st (ed_st (ed_st σ 10 t 0 2) 11 t 0 (-10)) 14 t 0 0) 17 t 0 d) 5 0 0 (-1) := ⟨_, rfl⟩
  have q1 : gQ σ1 q := fun r hr => by
    rw [hσ1]
    exact (((((nQ r hr).st (by decide) (by decide)).st (by decide) (by decide)).st (by decide) (by decide)).st (by decide) (by decide)).st (by decide) (by decide)
  obtain ⟨σ2, e2, f2, g2⟩ := row_addLast (x := t) (q1 32 (by omega)) hcap
  have hA1 : ag_ σ σ1 [5, 10, 11, 14, 17, 18, 25, 39] := by rw [hσ1]; exact ((((ag_.rf.st (by decide)).st (by decide)).st (by decide)).st (by decide)).st (by decide)
  have hA2 : ag_ σ σ2 [5, 10, 11, 14, 17, 18, 25, 39] := hA1.fr f2 (by decide) (by decide)
  have s40 : ∀ k, σ2 40 t k = σ 40 t k := fun k => hA2.at 40 (by decide) t k
  obtain ⟨σ', e3, a3, g3⟩ := d_ptp (σ := σ2) (t := t) (m := 1) (fun k hk => by rw [s40]; exact (pl.1 k hk).2.1)
  obtain ⟨ρ', hρ'⟩ : ∃ z, z = ed_st (ed_st (ed_st (ed_st (ed_st (ed_st (ed_st ρ 7 0 t 2) 44 0 0 (-1)) 8 0 t (-10)) 13 0 t d) 12 0 t 0) 51 0 0 (ρ 51 0 0 + 1)) 15 0 t (ρ 51 0 0 + 1) := ⟨_, rfl⟩
  have hA : ag_ σ σ' [5, 10, 11, 14, 17, 18, 25, 39] := hA2.tr (a3.mo (by decide))
  have hB : ag_ ρ ρ' [7, 8, 12, 13, 15, 44, 51] := by rw [hρ']; exact ((((((ag_.rf.st (by decide)).st (by decide)).st (by decide)).st (by decide)).st (by decide)).st (by decide)).st (by decide)
  have r7 : ∀ u, ρ' 7 0 u = if u = t then 2 else ρ 7 0 u := fun u => by rw [hρ']; simp [ed_st]
  have r8 : ∀ u, ρ' 8 0 u = if u = t then -10 else ρ 8 0 u := fun u => by rw [hρ']; simp [ed_st]
  have r12 : ∀ u, ρ' 12 0 u = if u = t then 0 else ρ 12 0 u := fun u => by rw [hρ']; simp [ed_st]
  have r13 : ∀ u, ρ' 13 0 u = if u = t then d else ρ 13 0 u := fun u => by rw [hρ']; simp [ed_st]
  have r15 : ∀ u, ρ' 15 0 u = if u = t then ρ 51 0 0 + 1 else ρ 15 0 u := fun u => by rw [hρ']; simp [ed_st]
  have r44 : ρ' 44 0 0 = -1 := by rw [hρ']; simp [ed_st]
  have r51 : ρ' 51 0 0 = ρ 51 0 0 + 1 := by rw [hρ']; simp [ed_st]
  have s2k : ∀ k u, k ≠ 18 → k ≠ 39 → σ' k u 0 = if k = 25 then σ' k u 0 else σ1 k u 0 := fun k u h1 h2 => by
    by_cases c : k = 25
    · rw [if_pos c]
    · rw [if_neg c, a3.at k (by simp; exact c), f2 k u 0 (by omega)]
  have s10 : ∀ u, σ' 10 u 0 = if u = t then 2 else σ 10 u 0 := fun u => by rw [s2k 10 u (by decide) (by decide), if_neg (by decide), hσ1]; simp [ed_st]
  have s11 : ∀ u, σ' 11 u 0 = if u = t then -10 else σ 11 u 0 := fun u => by rw [s2k 11 u (by decide) (by decide), if_neg (by decide), hσ1]; simp [ed_st]
  have s14 : ∀ u, σ' 14 u 0 = if u = t then 0 else σ 14 u 0 := fun u => by rw [s2k 14 u (by decide) (by decide), if_neg (by decide), hσ1]; simp [ed_st]
  have s17 : ∀ u, σ' 17 u 0 = if u = t then d else σ 17 u 0 := fun u => by rw [s2k 17 u (by decide) (by decide), if_neg (by decide), hσ1]; simp [ed_st]
  have s5 : σ' 5 0 0 = -1 := by rw [s2k 5 0 (by decide) (by decide), if_neg (by decide), hσ1]; simp [ed_st]
  have i51 := add1 hw.2.2.2
  have hle51 : ρ 51 0 0 ≤ ρ' 51 0 0 := by rw [r51, Int32.le_iff_toInt_le, i51]; omega
  have hhc : ∀ o, hc_ ρ' o = hc_ ρ o := fun o => hc_.ag hB (by decide) o
  have q33 : va_up q 32 (q 32 ++ [t]) 33 = q 33 := up_n (by omega)
  have hpc : ∀ o, pc_ ρ' T (q 33).length o = pc_ ρ T (q 33).length o + (if ρ 17 0 (3 * t + 2) = o then 1 else 0) + (if ρ 17 0 (3 * t + 1) = o then 1 else 0) + (if ρ 17 0 (3 * t + 0) = o then 1 else 0) := fun o => by
    have := pc_end (ρ := ρ') (ρ' := ρ) (T := T) (K := (q 33).length) ht (by rw [r7, if_pos rfl]) (by rw [h0]; decide) (fun u hu => by rw [r7, if_neg hu]) hB.sy (by decide) o
    rw [hB.at 17 (by decide), hB.at 17 (by decide), hB.at 17 (by decide)] at this
    exact this
  have hplace : ∀ o, o < 16 → hc_ ρ (nI o) = 0 → ∀ k, k < 3 → ¬ ρ 17 0 (3 * t + k) = nI o := fun o ho h k hk z => hth k o hk ho z h
  have htheq : ∀ o, o < 16 → (th_ ρ' T (va_up q 32 (q 32 ++ [t])) o ↔ th_ ρ T q o) := fun o ho => by
    unfold th_
    rw [hhc, q33, hpc]
    by_cases c : hc_ ρ (nI o) = 0
    · rw [if_neg (hplace o ho c 2 (by omega)), if_neg (hplace o ho c 1 (by omega)), if_neg (hplace o ho c 0 (by omega))]
      rfl
    · constructor
      · intro _ z; exact c z.1
      · intro _ z; exact c z.1
  refine ⟨σ', ρ', ?_, hρ', ⟨?_, ?_, ?_, ?_, ?_, ?_, ?_, ?_, nX.up hA hB (by decide) (by decide) hle51, (nV.ag hB (by decide)).q (fun o ho => up_n (by omega)), (nI'.ag hB (by decide)).q q33, nP.ag hA hB (by decide) (by decide), ?_, ?_⟩, hA, hB, fun u hu => by rw [r7, if_neg hu], r51⟩
  · rw [← hσ1, vB1_at e2, vB1_at e3]
  · have := (q1.up f2 g2)
    exact this.ag a3 (by decide)
  · obtain ⟨a1, a2, a3', a4, a5, a6, a7, a8, a9, a10, a11, a12, a13⟩ := nA
    refine ⟨a1, a2, ?_, ?_, ?_, ?_, ?_, ?_, ?_, ?_, ?_, ?_, ?_⟩
    · rw [hA.at 0 (by decide)]; exact a3'
    · rw [hB.at 42 (by decide)]; exact a4
    · rw [hA.at 1 (by decide)]; exact a5
    · rw [hB.at 43 (by decide)]; exact a6
    · rw [hA.at 2 (by decide), hB.at 50 (by decide)]; exact a7
    · rw [hA.at 3 (by decide), hB.at 46 (by decide)]; exact a8
    · rw [hA.at 4 (by decide), hB.at 47 (by decide)]; exact a9
    · rw [hB.at 47 (by decide)]; exact a10
    · rw [s5, r44]
    · rw [hA.at 6 (by decide), hB.at 45 (by decide)]; exact a12
    · rw [hA.at 7 (by decide), hB.at 49 (by decide)]; exact a13
  · intro u hu
    obtain ⟨b1, b2, b3, b4, b5, b6, b7, b8⟩ := nT u hu
    rw [hA.at 8 (by decide), hA.at 9 (by decide), hA.at 12 (by decide), hA.at 13 (by decide), hB.at 5 (by decide), hB.at 6 (by decide), hB.at 10 (by decide), hB.at 11 (by decide), s10, s11, s14, r7, r8, r12]
    by_cases c : u = t
    · rw [if_pos c, if_pos c, if_pos c, if_pos c, if_pos c, if_pos c]
      exact ⟨b1, b2, rfl, rfl, b5, b6, rfl, b8⟩
    · rw [if_neg c, if_neg c, if_neg c, if_neg c, if_neg c, if_neg c]
      exact ⟨b1, b2, b3, b4, b5, b6, b7, b8⟩
  · intro u hu hu8
    have c : u ≠ t := by omega
    rw [hA.at 12 (by decide), hA.at 13 (by decide), hB.at 9 (by decide), hB.at 10 (by decide), hB.at 11 (by decide), s11, s14, r12, if_neg c, if_neg c, if_neg c, up_n (by omega)]
    exact nU u hu hu8
  · refine Or.inl ⟨r44, fun u hu => ?_⟩
    rw [r7]
    by_cases c : u = t
    · rw [if_pos c]; decide
    · rw [if_neg c]; exact fun z => c ((hrun u hu).mp z)
  · intro u hu
    rw [up_n (by omega), hB.at 9 (by decide)]
    simp only [hB.at 18 (by decide)]
    exact nC u hu
  · obtain ⟨w1, w2, w3, w4⟩ := nW
    refine ⟨?_, fun u => ?_, fun u hu h2 => ?_, fun u hu h2 => ?_⟩
    · rw [up_s]
      refine List.pairwise_append.mpr ⟨?_, List.pairwise_singleton _ _, fun x hx y hy => ?_⟩
      · refine List.Pairwise.imp_of_mem ?_ w1
        intro x y hx hy z
        rw [r15, r15, if_neg (fun w : x = t => htq (w ▸ hx)), if_neg (fun w : y = t => htq (w ▸ hy))]
        exact z
      · rw [List.mem_singleton.mp hy, r15, r15, if_pos rfl, if_neg (fun w : x = t => htq (w ▸ hx))]
        have hx' := (w2 x).mp hx
        have := (w3 x hx'.1 hx'.2).2.1
        rw [Int32.le_iff_toInt_le] at this
        rw [Int32.lt_iff_toInt_lt, i51]
        omega
    · rw [up_s, List.mem_append, List.mem_singleton, w2 u, r7]
      by_cases c : u = t
      · rw [if_pos c]
        constructor
        · intro _; exact ⟨by omega, rfl⟩
        · intro _; exact Or.inr c
      · rw [if_neg c]
        constructor
        · intro z; exact z.resolve_right c
        · intro z; exact Or.inl z
    · rw [r15, r13, r51, s17, hB.at 14 (by decide), hA.at 15 (by decide), hA.at 16 (by decide)]
      by_cases c : u = t
      · subst c
        rw [if_pos rfl, if_pos rfl, if_pos rfl]
        refine ⟨?_, le_rf _, rfl, hd, h15, h16, ?_⟩
        · rw [Int32.lt_iff_toInt_lt, i51]
          have := hw.2.2.1
          have e1 : (-1 : Int32).toInt = -1 := by decide
          omega
        · unfold pl_ at *
          simp only [hA.at 40 (by decide), hB.at 17 (by decide), hB.at 22 (by decide)]
          exact pl
      · rw [r7, if_neg c] at h2
        obtain ⟨v1, v2, v3, v4, v5, v6, v7⟩ := w3 u hu h2
        rw [if_neg c, if_neg c, if_neg c]
        refine ⟨v1, le_tr v2 (by rw [← r51]; exact hle51), v3, v4, v5, v6, ?_⟩
        unfold pl_ at *
        simp only [hA.at 40 (by decide), hB.at 17 (by decide), hB.at 22 (by decide)]
        exact v7
    · rw [r7] at h2
      by_cases c : u = t
      · rw [if_pos c] at h2; exact absurd rfl h2
      · rw [if_neg c] at h2
        rw [r13, if_neg c]
        exact w4 u hu h2
  · refine ⟨fun y hy => ?_, fun u hu h1 => ?_⟩
    · rw [up_n (by omega)]
      simp only [hB.at 16 (by decide), hB.at 6 (by decide)]
      refine ⟨(nD.1 y hy).1, fun u => ?_⟩
      rw [(nD.1 y hy).2 u, r7]
      by_cases c : u = t
      · subst c
        rw [if_pos rfl, h0]
        constructor
        · intro z; exact absurd z.2.1 (by decide)
        · intro z; exact absurd z.2.1 (by decide)
      · rw [if_neg c]
    · rw [r7] at h1
      by_cases c : u = t
      · rw [if_pos c] at h1; exact absurd h1 (by decide)
      · rw [if_neg c] at h1
        rw [hB.at 16 (by decide), hB.at 52 (by decide)]
        exact ⟨(nD.2 u hu h1).1, le_tr (nD.2 u hu h1).2 hle51⟩
  · intro o ho
    obtain ⟨n1, n2⟩ := nH o ho
    have s25 : σ2 25 o 0 = σ 25 o 0 := by rw [f2 25 o 0 (by omega), hσ1]; simp [ed_st]
    rw [hA.at 24 (by decide), hhc, q33, hpc, g3 o ho, s40, s40, s40, s25, n2, (pl.1 0 (by omega)).1, (pl.1 1 (by omega)).1, (pl.1 2 (by omega)).1, ep1, ep1, ep1]
    refine ⟨n1, congrArg nI ?_⟩
    omega
  · refine ⟨fun o ho => by rw [hB.at 19 (by decide)]; exact nO.1 o ho, fun o ho h => ?_⟩
    obtain ⟨x, y⟩ := nO.2 o ho ((htheq o ho).mp h)
    refine ⟨x.ag hA hB (by decide) (by decide), fun z => ?_⟩
    rw [hhc] at z
    rw [hA.at 23 (by decide), hB.at 23 (by decide)]
    exact y z
