/-! ===== the pure part: a wait ends, both sides ===== -/
theorem s_go {σ ρ : ed_S} {T P t : Nat} {q : Nat → List Nat} (h : gM σ ρ T P q) (hw : nw_ ρ) (ht : t < T) (h2 : ρ 7 0 t = 2) (x : Int32) :
    ∃ σ' ρ' q', F_Desk_endWait (nI t) x σ = some σ' ∧ F_Mod_go (nI t) x ρ = some ρ' ∧ gM σ' ρ' T P q' ∧ ag_ σ σ' [10, 11, 18, 25, 39] ∧ ag_ ρ ρ' [7, 8, 13, 16, 51] ∧ q' 32 = (q 32).filter (fun w => w != t) ∧ (∀ r, r < 8 ∨ (16 ≤ r ∧ r ≠ 32) → q' r = q r) ∧ ρ' 51 0 0 = ρ 51 0 0 + 1 ∧ (∀ u, u ≠ t → ρ' 7 0 u = ρ 7 0 u) ∧ ρ' 7 0 t = 1 ∧ (∀ u, u ≠ t → σ' 10 u 0 = σ 10 u 0) := by
  obtain ⟨nQ, nA, nT, nU, nR, nC, nW, nD, nX, nV, nI', nP, nH, nO⟩ := h
  have hT8 := nA.2.1
  have ht8 : t < 8 := by omega
  obtain ⟨w1, w2, w3, w4⟩ := nW
  obtain ⟨v1, v2, v3, v3', v4, v5, v6⟩ := w3 t ht h2
  obtain ⟨b1, b2, b3, b4, b5, b6, b7, b8, b9⟩ := nT t ht
  obtain ⟨p, hp, hpr⟩ := b9
  -- rows
  obtain ⟨σ1, e1, f1, g1⟩ := row_removeValue (v := t) (nQ 32 (by omega)) (by omega) (fun w hw' => by
    have := ((w2 w).mp hw').1
    omega)
  have hA1 : ag_ σ σ1 [10, 11, 18, 25, 39] := ag_.rf.fr f1 (by decide) (by decide)
  obtain ⟨σ2, hσ2⟩ : ∃ z, z = ed_st σ1 11 t 0 x := ⟨_, rfl⟩
  have hA2 : ag_ σ σ2 [10, 11, 18, 25, 39] := by rw [hσ2]; exact hA1.st (by decide)
  obtain ⟨σ3, e3, f3, g3⟩ := d_ptp (σ := σ2) (t := t) (m := -1) (fun k hk => by rw [hA2.at 40 (by decide)]; exact (v6.1 k hk).2.1)
  have hA3 : ag_ σ σ3 [10, 11, 18, 25, 39] := hA2.tr (fun k i j hk => f3 k i j (fun z => hk (by revert z; simp; omega)))
  obtain ⟨σ4, hσ4⟩ : ∃ z, z = ed_st σ3 10 t 0 1 := ⟨_, rfl⟩
  have hA4 : ag_ σ σ4 [10, 11, 18, 25, 39] := by rw [hσ4]; exact hA3.st (by decide)
  have q4 : gQ σ4 (va_up q 32 ((q 32).filter (fun w => w != t))) := by
    have z1 : gQ σ1 (va_up q 32 ((q 32).filter (fun w => w != t))) := nQ.up f1 g1
    have z2 : gQ σ2 (va_up q 32 ((q 32).filter (fun w => w != t))) := by rw [hσ2]; exact fun r hr => (z1 r hr).st (by decide) (by decide)
    have z3 : gQ σ3 (va_up q 32 ((q 32).filter (fun w => w != t))) := z2.ag f3 (by decide)
    rw [hσ4]
    exact fun r hr => (z3 r hr).st (by decide) (by decide)
  have htq : ∀ y, y < 8 → t ∉ q (8 + y) := fun y hy z => by
    have := ((nD.1 y hy).2 t).mp z
    rw [h2] at this
    exact absurd this.2.1 (by decide)
  have hsort := (nD.1 p hp).1
  have hlen : (q (8 + p)).length < ed_cap (8 + p) := by
    have h1 : (t :: q (8 + p)).length ≤ 8 := nd_len 8 _ (List.nodup_cons.mpr ⟨htq p hp, pw_nd hsort⟩) (fun y hy => by
      rcases List.mem_cons.mp hy with e | e
      · omega
      · have := (((nD.1 p hp).2 y).mp e).1
        omega)
    simp only [List.length_cons] at h1
    have h2 : ed_cap (8 + p) = 8 := if_neg (by omega)
    omega
  have hrow : rw_ σ4 (8 + p) (q (8 + p)) := by
    have := q4 (8 + p) (by omega)
    rw [up_n (by omega)] at this
    exact this
  obtain ⟨σ', e5, f5, g5⟩ := row_addLast (x := t) hrow hlen
  have hA : ag_ σ σ' [10, 11, 18, 25, 39] := hA4.fr f5 (by decide) (by decide)
  have eC : F_Desk_endWait (nI t) x σ = some σ' := by
    unfold F_Desk_endWait
    rw [vB1_at e1, vG_at ht8 (by omega)]
    simp only [vL]
    rw [vG_at ht8 (by omega), ← hσ2, vB1_at e3]
    have em : F_Sched_makeReady (nI t) σ3 = some σ' := by
      unfold F_Sched_makeReady
      rw [vG_at ht8 (by omega)]
      simp only [vL]
      rw [vG_at ht8 (by omega), ← hσ4, hA4.at 9 (by decide), b2, hpr, vG_at hp (by omega), vB1_at e5]
    rw [vB1_at em]
  -- the reference
  obtain ⟨ρ', hρ'⟩ : ∃ z, z = ed_st (ed_st (ed_st (ed_st (ed_st ρ 8 0 t x) 13 0 t (-1)) 7 0 t 1) 51 0 0 (ρ 51 0 0 + 1)) 16 0 t (ρ 51 0 0 + 1) := ⟨_, rfl⟩
  have eR : F_Mod_go (nI t) x ρ = some ρ' := by
    unfold F_Mod_go
    rw [vG_at ht8 (by omega)]
    simp only [vL]
    rw [vG_at ht8 (by omega)]
    have em : F_Mod_ready (nI t) (ed_st (ed_st ρ 8 0 t x) 13 0 t (-1)) = some ρ' := by
      unfold F_Mod_ready
      rw [vG_at ht8 (by omega)]
      simp only [vL]
      rw [vG_at ht8 (by omega), hρ']
      have z : ed_st (ed_st (ed_st ρ 8 0 t x) 13 0 t (-1)) 7 0 t 1 51 0 0 = ρ 51 0 0 := by rw [ed_st_n (by omega), ed_st_n (by omega), ed_st_n (by omega)]
      rw [z]
    rw [vB1_at em]
  have hB : ag_ ρ ρ' [7, 8, 13, 16, 51] := by
    rw [hρ']
    exact ((((ag_.rf.st (by decide)).st (by decide)).st (by decide)).st (by decide)).st (by decide)
  have r7 : ∀ u, ρ' 7 0 u = if u = t then 1 else ρ 7 0 u := fun u => by rw [hρ']; simp [ed_st]
  have r8 : ∀ u, ρ' 8 0 u = if u = t then x else ρ 8 0 u := fun u => by rw [hρ']; simp [ed_st]
  have r13 : ∀ u, ρ' 13 0 u = if u = t then -1 else ρ 13 0 u := fun u => by rw [hρ']; simp [ed_st]
  have r16 : ∀ u, ρ' 16 0 u = if u = t then ρ 51 0 0 + 1 else ρ 16 0 u := fun u => by rw [hρ']; simp [ed_st]
  have r51 : ρ' 51 0 0 = ρ 51 0 0 + 1 := by rw [hρ']; simp [ed_st]
  have i51 := add1 hw.2.2.2
  have ho : ρ 51 0 0 ≤ ρ' 51 0 0 := by
    rw [r51, Int32.le_iff_toInt_le, i51]
    omega
  have s10 : ∀ u, σ' 10 u 0 = if u = t then 1 else σ 10 u 0 := fun u => by
    rw [f5 10 u 0 (by omega), hσ4]
    have z3 : σ3 10 u 0 = σ 10 u 0 := by rw [f3 10 u 0 (by decide), hσ2, ed_st_n (by omega), f1 10 u 0 (by omega)]
    simp [ed_st, z3]
  have s11 : ∀ u, σ' 11 u 0 = if u = t then x else σ 11 u 0 := fun u => by
    rw [f5 11 u 0 (by omega), hσ4, ed_st_n (by omega), f3 11 u 0 (by decide), hσ2]
    have z3 : σ1 11 u 0 = σ 11 u 0 := f1 11 u 0 (by omega)
    simp [ed_st, z3]
  have r72 : ∀ u, ρ' 7 0 u = 2 ↔ u ≠ t ∧ ρ 7 0 u = 2 := fun u => by
    by_cases c : u = t
    · rw [r7, if_pos c]
      exact ⟨fun z => absurd z (by decide), fun z => absurd c z.1⟩
    · rw [r7, if_neg c]
      exact ⟨fun z => ⟨c, z⟩, fun z => z.2⟩
  have r71 : ∀ u, ρ' 7 0 u = 1 ↔ u = t ∨ ρ 7 0 u = 1 := fun u => by
    by_cases c : u = t
    · rw [r7, if_pos c]
      exact ⟨fun _ => Or.inl c, fun _ => rfl⟩
    · rw [r7, if_neg c]
      exact ⟨fun z => Or.inr z, fun z => z.resolve_left c⟩
  have r70 : ∀ u, ρ' 7 0 u = 0 ↔ ρ 7 0 u = 0 := fun u => by
    by_cases c : u = t
    · subst c
      rw [r7, if_pos rfl, h2]
      decide
    · rw [r7, if_neg c]
  have hpc : ∀ o, pc_ ρ T (q 33).length o = pc_ ρ' T (q 33).length o + (if ρ 17 0 (3 * t + 2) = o then 1 else 0) + (if ρ 17 0 (3 * t + 1) = o then 1 else 0) + (if ρ 17 0 (3 * t + 0) = o then 1 else 0) := fun o =>
    pc_end ht h2 (by rw [r7, if_pos rfl]; decide) (fun u hu => by rw [r7, if_neg hu]) hB (by decide) o
  have hhc : ∀ o, hc_ ρ' o = hc_ ρ o := fun o => hc_.ag hB (by decide) o
  obtain ⟨q', hq'⟩ : ∃ z, z = va_up (va_up q 32 ((q 32).filter (fun w => w != t))) (8 + p) (q (8 + p) ++ [t]) := ⟨_, rfl⟩
  have k32 : q' 32 = (q 32).filter (fun w => w != t) := by rw [hq', up_n (by omega), up_s]
  have kr : ∀ r, r ≠ 32 → r ≠ 8 + p → q' r = q r := fun r h1 h3 => by rw [hq', up_n h3, up_n h1]
  have kp : q' (8 + p) = q (8 + p) ++ [t] := by rw [hq', up_s]
  have mQ : gQ σ' q' := by
    rw [hq']
    exact q4.up f5 g5
  have mT : gT σ' ρ' T P := fun u hu => by
    obtain ⟨c1, c2, c3, c4, c5, c6, c7, c8, c9⟩ := nT u hu
    rw [hA.at 8 (by decide), hA.at 9 (by decide), hA.at 12 (by decide), hA.at 13 (by decide), hA.at 14 (by decide), hB.at 5 (by decide), hB.at 6 (by decide), hB.at 10 (by decide), hB.at 11 (by decide), hB.at 12 (by decide), s10, r7, s11, r8, c3, c4]
    exact ⟨c1, c2, rfl, rfl, c5, c6, c7, c8, c9⟩
  have mU : gU σ' ρ' T q' := fun u hu hu8 => by
    obtain ⟨c1, c2, c3, c4, c5, c6, c7, c8, c9⟩ := nU u hu hu8
    rw [s11, if_neg (by omega), hA.at 12 (by decide), hA.at 13 (by decide), hA.at 14 (by decide), hB.at 9 (by decide), hB.at 10 (by decide), hB.at 11 (by decide), hB.at 12 (by decide), kr u (by omega) (by omega)]
    exact ⟨c1, c2, c3, c4, c5, c6, c7, c8, c9⟩
  have mR : gR ρ' T := by
    unfold gR at *
    rw [hB.at 44 (by decide)]
    simp only [r70]
    exact nR
  have mC : gC ρ' T q' := fun u hu => by
    have := (nC.ag hB (by decide)) u hu
    rw [kr u (by omega) (by omega)]
    exact this
  have mW : gW σ' ρ' T q' := by
    refine ⟨?_, fun u => ?_, fun u hu z => ?_, fun u hu z => ?_⟩
    · rw [k32]
      simp only [hB.at 15 (by decide)]
      exact w1.filter _
    · rw [k32, List.mem_filter, w2 u, r72]
      simp only [bne_iff_ne, ne_eq]
      exact ⟨fun z => ⟨z.1.1, z.2, z.1.2⟩, fun z => ⟨⟨z.1, z.2.2⟩, z.2.1⟩⟩
    · obtain ⟨z1, z2⟩ := (r72 u).mp z
      obtain ⟨d1, d2, d3, d3', d4, d5, d6⟩ := w3 u hu z2
      simp only [hA.at 15 (by decide), hA.at 16 (by decide), hA.at 17 (by decide), hA.at 40 (by decide), r13, if_neg z1, hB.at 14 (by decide), hB.at 15 (by decide), hB.at 17 (by decide), hB.at 22 (by decide), pl_]
      exact ⟨d1, le_tr d2 ho, d3, d3', d4, d5, d6⟩
    · rw [r13]
      by_cases c : u = t
      · rw [if_pos c]
      · rw [if_neg c]
        exact w4 u hu (fun y => z ((r72 u).mpr ⟨c, y⟩))
  have hst : ∀ u, u ≠ t → ρ' 16 0 u = ρ 16 0 u := fun u hu => by rw [r16, if_neg hu]
  have mD : gD ρ' T q' := by
    refine ⟨fun y hy => ⟨?_, fun u => ?_⟩, fun u hu h1 => ?_⟩
    · have keep : ∀ y, y < 8 → (q (8 + y)).Pairwise (fun a b => ρ' 16 0 a < ρ' 16 0 b) := fun y hy => by
        refine List.Pairwise.imp_of_mem ?_ (nD.1 y hy).1
        intro a b ha hb z
        rw [hst a (fun w => htq y hy (w ▸ ha)), hst b (fun w => htq y hy (w ▸ hb))]
        exact z
      by_cases c : y = p
      · subst c
        rw [kp]
        refine List.pairwise_append.mpr ⟨keep y hy, List.pairwise_singleton _ _, fun a ha b hb => ?_⟩
        rw [List.mem_singleton.mp hb, r16 t, if_pos rfl, hst a (fun w => htq y hy (w ▸ ha))]
        have hbr := ((nD.1 y hy).2 a).mp ha
        have h5 := (nD.2 a hbr.1 hbr.2.1).2
        rw [Int32.le_iff_toInt_le] at h5
        rw [Int32.lt_iff_toInt_lt, i51]
        omega
      · rw [kr (8 + y) (by omega) (by omega)]
        exact keep y hy
    · rw [hB.at 6 (by decide), r71]
      by_cases c : y = p
      · subst c
        rw [kp, List.mem_append, List.mem_singleton, (nD.1 y hy).2 u]
        constructor
        · rintro (z | z)
          · exact ⟨z.1, Or.inr z.2.1, z.2.2⟩
          · subst z
            exact ⟨ht, Or.inl rfl, hpr⟩
        · rintro ⟨z1, z2 | z2, z3⟩
          · exact Or.inr z2
          · exact Or.inl ⟨z1, z2, z3⟩
      · rw [kr (8 + y) (by omega) (by omega), (nD.1 y hy).2 u]
        constructor
        · intro z
          exact ⟨z.1, Or.inr z.2.1, z.2.2⟩
        · rintro ⟨z1, z2 | z2, z3⟩
          · subst z2
            rw [hpr] at z3
            exact absurd ((nI_eq (by omega) (by omega)).mp z3).symm c
          · exact ⟨z1, z2, z3⟩
    · rw [r51, hB.at 52 (by decide)]
      rcases (r71 u).mp h1 with z | z
      · subst z
        rw [r16, if_pos rfl]
        refine ⟨?_, le_rf _⟩
        rw [Int32.le_iff_toInt_le, i51]
        have h6 := hw.2.1
        have h7 := hw.2.2.1
        omega
      · have hne : u ≠ t := fun w => by
          subst w
          rw [h2] at z
          exact absurd z (by decide)
        rw [hst u hne]
        have h5 := nD.2 u hu z
        exact ⟨h5.1, le_tr h5.2 (by rw [← r51]; exact ho)⟩
  have mV : gV ρ' q' := fun o ho2 => by
    have := (nV.ag hB (by decide)) o ho2
    rw [kr (16 + o) (by omega) (by omega)]
    exact this
  have k33 : q' 33 = q 33 := kr 33 (by omega) (by omega)
  have mI : gI ρ' q' := by
    have := nI'.ag hB (by decide)
    unfold gI at *
    rw [k33]
    exact this
  have mH : gH σ' ρ' T q' := fun o ho2 => by
    obtain ⟨c1, c2⟩ := nH o ho2
    rw [hA.at 24 (by decide), hhc, k33]
    refine ⟨c1, ?_⟩
    have z5 : σ' 25 o 0 = σ3 25 o 0 := by rw [f5 25 o 0 (by omega), hσ4, ed_st_n (by omega)]
    have z2 : σ2 25 o 0 = σ 25 o 0 := by rw [hσ2, ed_st_n (by omega), f1 25 o 0 (by omega)]
    have zp : ∀ k, k < 3 → σ2 40 t k = ρ 17 0 (3 * t + k) := fun k hk => by rw [hA2.at 40 (by decide)]; exact (v6.1 k hk).1
    rw [z5, g3 o ho2, z2, c2, zp 0 (by omega), zp 1 (by omega), zp 2 (by omega), hpc (nI o), em1, em1, em1]
  exact ⟨σ', ρ', q', eC, eR, ⟨mQ, nA.ag hA hB (by decide) (by decide), mT, mU, mR, mC, mW, mD, nX.up hA hB (by decide) (by decide) ho, mV, mI, nP.ag hA hB (by decide) (by decide), mH, nO.less hA hB (by decide) (by decide) hhc (fun o => by rw [k33, hpc o]; omega)⟩, hA, hB, k32, fun r hr => kr r (by omega) (by omega), r51, fun u hu => by rw [r7, if_neg hu], by rw [r7, if_pos rfl], fun u hu => by rw [s10, if_neg hu]⟩
