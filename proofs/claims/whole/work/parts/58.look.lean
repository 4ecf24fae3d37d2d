/-- who runs is as it must be: nobody only if none is ready; none of a greater priority is ready -/
def lk_ (ρ : ed_S) (T : Nat) (q : Nat → List Nat) : Prop := (ρ 44 0 0 = -1 → ∀ p, p < 8 → q (8 + p) = []) ∧ ∀ t p, ρ 44 0 0 = nI t → t < T → ρ 6 0 t = nI p → ∀ p', p < p' → p' < 8 → q (8 + p') = []
theorem s_look {σ ρ : ed_S} {T P : Nat} {q : Nat → List Nat} (h : gM σ ρ T P q) (hw : nw_ ρ) :
    ∃ σ' ρ' q', F_Desk_lookWhoRuns σ = some σ' ∧ F_Mod_look ρ = some ρ' ∧ gM σ' ρ' T P q' ∧ ag_ σ σ' [5, 6, 7, 10, 18, 39] ∧ ag_ ρ ρ' [7, 16, 44, 45, 49, 52] ∧ (ρ' 52 0 0 = ρ 52 0 0 ∨ ρ' 52 0 0 = ρ 52 0 0 - 1) ∧ (∀ r, r < 8 ∨ 16 ≤ r → q' r = q r) ∧ (∀ t, t < T → (ρ' 7 0 t = 2 ↔ ρ 7 0 t = 2)) ∧ (ρ 47 0 0 = 0 → lk_ ρ' T q') := by
  have hN := gN.of h
  have hN' := hN
  obtain ⟨nQ, nA, nT, nU, nC, nW, nD, nX, nV, nI', nP, nH, nO⟩ := hN
  have hR : gR ρ T := h.2.2.2.2.1
  obtain ⟨a1, a2, a3, a4, a5, a6, a7, a8, a9, a10, a11, a12, a13⟩ := nA
  rcases a10 with hl | hl
  · -- the level is 0
    obtain ⟨x, eb, hb⟩ := d_best nQ
    obtain ⟨y, en, hn⟩ := m_next a2 a6
    have hnx := next_is (fun t ht => (nT t ht).2.2.2.2.2.2.2.2) nD hn
    have eC : F_Desk_lookWhoRuns σ = F_Sched_look σ := by
      unfold F_Desk_lookWhoRuns
      rw [if_pos (by rw [a9]; exact hl)]
      cases F_Sched_look σ <;> rfl
    have eR : F_Mod_look ρ = F_Mod_look_16 y ρ := by
      unfold F_Mod_look
      rw [if_neg (by rw [hl]; decide), vB2_at en]
    rcases hnx with ⟨he, hy⟩ | ⟨p, hd, l, hp, hq, hy, hab⟩
    · -- nobody is ready
      have hx : x = -1 := by
        rcases hb with hb | ⟨p, hp, _, hb, _⟩
        · exact hb.1
        · exact absurd (he p hp) hb
      refine ⟨σ, ρ, q, ?_, ?_, h, ag_.rf, ag_.rf, Or.inl rfl, fun _ _ => rfl, fun _ _ => Iff.rfl, fun _ => ⟨fun _ => he, fun t p _ _ _ p' _ hp' => he p' hp'⟩⟩
      · rw [eC]
        unfold F_Sched_look
        rw [vB2_at eb, if_pos hx]
      · rw [eR]
        unfold F_Mod_look_16
        rw [if_pos (by rw [hy]; decide)]
    · have hx : x = nI p := by
        rcases hb with hb | ⟨p2, hp2, hx, hb, hb2⟩
        · exact absurd (hb.2 p hp) (by rw [hq]; exact List.cons_ne_nil _ _)
        · rcases Nat.lt_trichotomy p p2 with z | z | z
          · exact absurd (hab p2 z hp2) hb
          · rw [hx, z]
          · exact absurd (hb2 p z hp) (by rw [hq]; exact List.cons_ne_nil _ _)
      subst hx
      subst hy
      have hdm := ((nD.1 p hp).2 hd).mp (by rw [hq]; exact List.mem_cons_self)
      have hd8 : hd < 8 := by omega
      rcases hR with ⟨hr, hno⟩ | ⟨t, ht, hr, hno⟩
      · -- nobody runs
        obtain ⟨σ', ρ', e1, e2, m1, g1, g2, g3, g4, g5, g6, g7⟩ := s_run hN' hp hq hno
        refine ⟨σ', ρ', va_up q (8 + p) l, ?_, ?_, m1, g1, fun k i j hk => g2 k i j (fun z => hk (by revert z; simp; omega)), Or.inl (g2 52 0 0 (by decide)), fun r hr2 => up_n (by omega), fun u hu => ?_, fun _ => ⟨fun z => ?_, fun u p2 z hu hz p' hp2 hp' => ?_⟩⟩
        · rw [eC]
          unfold F_Sched_look
          rw [vB2_at eb, if_neg (nI_m1 (by omega)), if_pos (by rw [a11]; exact hr), vB1_at e1]
        · rw [eR]
          unfold F_Mod_look_16 F_Mod_look_47
          rw [if_neg (nI_pos (by omega)), if_pos (by rw [hr]; decide), if_pos (by rw [hr]; decide), vB1_at e2]
        · by_cases c : u = hd
          · subst c
            have hr7 : ρ' 7 0 u = 0 := by
              rcases m1.2.2.2.2.1 with ⟨z, _⟩ | ⟨w, hw1, hw2, hw3⟩
              · rw [g4] at z
                exact absurd z (nI_m1 (by omega))
              · rw [g4] at hw2
                have := (nI_eq (by omega) (by omega)).mp hw2
                exact (hw3 u g3).mpr this
            rw [hr7, g7]
            decide
          · rw [g6 u c]
        · rw [g4] at z
          exact absurd z (nI_m1 (by omega))
        · rw [g4] at z
          have zz := (nI_eq (by omega) (by omega)).mp z
          subst zz
          rw [g2 6 0 hd (by decide), g5] at hz
          have h3 : p = p2 := by
            have h4 := congrArg Int32.toInt hz
            rw [nI_toInt (by omega)] at h4
            rcases Nat.lt_or_ge p2 (2 ^ 31) with w | w
            · rw [nI_toInt w] at h4
              omega
            · omega
          subst h3
          rw [up_n (by omega)]
          exact hab p' hp2 hp'
      · -- t runs
        have ht8 : t < 8 := by omega
        have h70 : ρ 7 0 t = 0 := (hno t ht).mpr rfl
        obtain ⟨b1, b2, b3, b4, b5, b6, b7, b8, b9⟩ := nT t ht
        obtain ⟨pt, hpt, hprt⟩ := b9
        have eC1 : F_Sched_look σ = if nI pt < nI p then (vB1 (F_Row_addFirst (8 + pt) (nI t) (ed_st σ 10 t 0 1)) fun σ19 => (vB1 (F_Sched_runFirstOf (nI p) σ19) fun σ21 => (some σ21))) else some σ := by
          unfold F_Sched_look
          rw [vB2_at eb, if_neg (nI_m1 (by omega)), if_neg (by rw [a11, hr]; exact nI_m1 (by omega)), a11, hr, vG_at ht8 (by omega), b2, hprt]
          simp only [vL]
          rw [ed_st_n (by omega), b2, hprt, vG_at hpt (by omega), ed_st_n (by omega), a11, hr]
        have eR1 : F_Mod_look_16 (nI hd) ρ = if nI pt < nI p then F_Mod_look_47 (nI hd) ρ else some ρ := by
          unfold F_Mod_look_16
          rw [if_neg (nI_pos (by omega)), if_neg (by rw [hr]; exact nI_pos (by omega)), vG_at hd8 (by omega), hr, vG_at ht8 (by omega), hprt, hdm.2.2]
        by_cases c : nI pt < nI p
        · rw [if_pos c] at eC1 eR1
          have hpp : pt < p := (nI_ltI (by omega) (by omega)).mp c
          obtain ⟨σ1, e1, m1, g1⟩ := s_pre hN' ht h70 hpt hprt hw
          obtain ⟨ρ1, hρ1⟩ : ∃ z, z = ed_st (ed_st (ed_st ρ 7 0 t 1) 52 0 0 (ρ 52 0 0 - 1)) 16 0 t (ρ 52 0 0 - 1) := ⟨_, rfl⟩
          rw [← hρ1] at m1
          have hB1 : ag_ ρ ρ1 [7, 16, 52] := by
            rw [hρ1]
            exact ((ag_.rf.st (by decide)).st (by decide)).st (by decide)
          have r17 : ∀ u, ρ1 7 0 u = if u = t then 1 else ρ 7 0 u := fun u => by rw [hρ1]; simp [ed_st]
          have hq1 : (va_up q (8 + pt) (t :: q (8 + pt))) (8 + p) = hd :: l := by rw [up_n (by omega)]; exact hq
          obtain ⟨σ', ρ', e2, e3, m2, f1, f2, f3, f4, f5, f6, f7⟩ := s_run m1 hp hq1 (fun u hu z => by
            rw [r17] at z
            by_cases w : u = t
            · rw [if_pos w] at z
              exact absurd z (by decide)
            · rw [if_neg w] at z
              exact w ((hno u hu).mp z))
          refine ⟨σ', ρ', va_up (va_up q (8 + pt) (t :: q (8 + pt))) (8 + p) l, ?_, ?_, m2, ?_, ?_, Or.inr ?_, fun r hr2 => ?_, fun u hu => ?_, fun _ => ⟨fun z => ?_, fun u p2 z hu hz p' hp2 hp' => ?_⟩⟩
          · rw [eC, eC1, vB1_at e1, vB1_at e2]
          · rw [eR, eR1]
            unfold F_Mod_look_47
            rw [if_neg (by rw [hr]; exact nI_pos (by omega)), hr, vG_at ht8 (by omega)]
            simp only [vL]
            rw [ed_st_n (by omega), ed_st_n (by omega), hr, vG_at ht8 (by omega), ← hρ1, vB1_at e3]
          · exact ag_.tr (fun k i j hk => g1 k i j (fun z => hk (by revert z; simp; omega))) f1
          · exact ag_.tr (fun k i j hk => hB1 k i j (fun z => hk (by revert z; simp; omega))) (fun k i j hk => f2 k i j (fun z => hk (by revert z; simp; omega)))
          · rw [f2 52 0 0 (by decide), hρ1]
            simp [ed_st]
          · rw [up_n (by omega), up_n (by omega)]
          · by_cases w : u = hd
            · subst w
              have hr7 : ρ' 7 0 u = 0 := by
                rcases m2.2.2.2.2.1 with ⟨z, _⟩ | ⟨w, hw1, hw2, hw3⟩
                · rw [f4] at z
                  exact absurd z (nI_m1 (by omega))
                · rw [f4] at hw2
                  have := (nI_eq (by omega) (by omega)).mp hw2
                  exact (hw3 u f3).mpr this
              rw [hr7, hdm.2.1]
              decide
            · rw [f6 u w, r17]
              by_cases w2 : u = t
              · subst w2
                rw [if_pos rfl, h70]
                decide
              · rw [if_neg w2]
          · rw [f4] at z
            exact absurd z (nI_m1 (by omega))
          · rw [f4] at z
            have zz := (nI_eq (by omega) (by omega)).mp z
            subst zz
            rw [f2 6 0 hd (by decide), f5] at hz
            have h3 : p = p2 := by
              have h4 := congrArg Int32.toInt hz
              rw [nI_toInt (by omega)] at h4
              rcases Nat.lt_or_ge p2 (2 ^ 31) with w | w
              · rw [nI_toInt w] at h4
                omega
              · omega
            subst h3
            rw [up_n (by omega), up_n (by omega)]
            exact hab p' hp2 hp'
        · rw [if_neg c] at eC1 eR1
          have hpp : p ≤ pt := by
            rcases Nat.lt_or_ge pt p with z | z
            · exact absurd ((nI_ltI (by omega) (by omega)).mpr z) c
            · exact z
          refine ⟨σ, ρ, q, by rw [eC, eC1], by rw [eR, eR1], h, ag_.rf, ag_.rf, Or.inl rfl, fun _ _ => rfl, fun _ _ => Iff.rfl, fun _ => ⟨fun z => ?_, fun u p2 z hu hz p' hp2 hp' => ?_⟩⟩
          · rw [hr] at z
            exact absurd z (nI_m1 (by omega))
          · rw [hr] at z
            have zz := (nI_eq (by omega) (by omega)).mp z
            subst zz
            rw [hprt] at hz
            have h3 : pt = p2 := by
              have h4 := congrArg Int32.toInt hz
              rw [nI_toInt (by omega)] at h4
              rcases Nat.lt_or_ge p2 (2 ^ 31) with w | w
              · rw [nI_toInt w] at h4
                omega
              · omega
            subst h3
            exact hab p' (by omega) hp'
  · -- the level is 1
    refine ⟨σ, ρ, q, ?_, ?_, h, ag_.rf, ag_.rf, Or.inl rfl, fun _ _ => rfl, fun _ _ => Iff.rfl, fun z => absurd (hl.symm.trans z) (by decide)⟩
    · unfold F_Desk_lookWhoRuns
      rw [if_neg (by rw [a9, hl]; decide)]
    · unfold F_Mod_look F_Mod_look_16
      rw [if_pos hl, if_pos (by decide)]
