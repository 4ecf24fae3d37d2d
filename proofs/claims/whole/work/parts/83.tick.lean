/-! ===== the pure part: tick, the call ===== -/
theorem gM.used {σ ρ : ed_S} {T P t : Nat} {q : Nat → List Nat} {v : Int32} (m : gM σ ρ T P q) (ht : t < T) : gM (ed_st σ 14 t 0 v) (ed_st ρ 12 0 t v) T P q := by
  obtain ⟨nQ, nA, nT, nU, nR, nC, nW, nD, nX, nV, nI', nP, nH, nO⟩ := m
  have a : ag_ σ (ed_st σ 14 t 0 v) [14] := ag_.rf.st (by decide)
  have b : ag_ ρ (ed_st ρ 12 0 t v) [12] := ag_.rf.st (by decide)
  have hhc : ∀ o, hc_ (ed_st ρ 12 0 t v) o = hc_ ρ o := fun o => hc_.ag b (by decide) o
  have hpc : ∀ o, pc_ (ed_st ρ 12 0 t v) T (q 33).length o = pc_ ρ T (q 33).length o := fun o => pc_.ag b (by decide) (fun u _ => by rw [b.at 7 (by decide)]) o
  refine ⟨nQ.ag a (by decide), nA.ag a b (by decide) (by decide), ?_, ?_, nR.ag b (by decide), nC.ag b (by decide), nW.ag a b (by decide) (by decide), nD.ag b (by decide), nX.ag a b (by decide) (by decide), nV.ag b (by decide), nI'.ag b (by decide), nP.ag a b (by decide) (by decide), nH.ag a (by decide) hhc hpc, nO.ag a b (by decide) (by decide) hhc hpc⟩
  · intro u hu
    obtain ⟨b1, b2, b3, b4, b5, b6, b7, b8⟩ := nT u hu
    simp only [a.at 8 (by decide), a.at 9 (by decide), a.at 10 (by decide), a.at 11 (by decide), a.at 12 (by decide), a.at 13 (by decide), b.at 5 (by decide), b.at 6 (by decide), b.at 7 (by decide), b.at 8 (by decide), b.at 10 (by decide), b.at 11 (by decide)]
    refine ⟨b1, b2, b3, b4, b5, b6, ?_, b8⟩
    by_cases c : u = t
    · subst c; rw [ed_st_s, ed_st_s]
    · rw [ed_st_n (by omega), ed_st_n (by omega)]; exact b7
  · intro u hu hu8
    have c : u ≠ t := by omega
    simp only [a.at 11 (by decide), a.at 12 (by decide), a.at 13 (by decide), b.at 9 (by decide), b.at 10 (by decide), b.at 11 (by decide)]
    rw [ed_st_n (show ¬ (14 = 14 ∧ u = t ∧ 0 = 0) by omega), ed_st_n (show ¬ (12 = 12 ∧ 0 = 0 ∧ u = t) by omega)]
    exact nU u hu hu8
/-- the quantum of who runs -/
theorem s_quant {b T P t : Nat} {σ ρ : ed_S} {q : Nat → List Nat} (z : zM b σ ρ T P q) (hb : b < 1000000) (ti : ti_ ρ T q) (hl : lk_ ρ T q ∧ q 33 = [] ∧ na_ ρ T q) (ht : t < T) (hr : ρ 44 0 0 = nI t) :
    ∃ σ' ρ' q', F_Sched_useQuantum σ = some σ' ∧ (vL (ed_st ρ 12 0 t (ρ 12 0 t + 1)) fun σ17 => (if 3 ≤ (σ17 12 0 t) then (vL (ed_st σ17 12 0 t 0) fun σ28 => (vB2 (F_Mod_next σ28) fun r32 σ30 => (if r32 < 0 then (some σ30) else (vG r32 8 fun j34 => (if (σ30 6 0 j34) = (σ30 6 0 t) then (vB1 (F_Mod_ready (nI t) σ30) fun σ43 => (vB1 (F_Mod_run r32 σ43) fun σ45 => (some σ45))) else (some σ30)))))) else (some σ17))) = some ρ' ∧ zM (b + 1) σ' ρ' T P q' ∧ ti_ ρ' T q' ∧ (lk_ ρ' T q' ∧ q' 33 = [] ∧ na_ ρ' T q') ∧ ρ' 46 0 0 = ρ 46 0 0 := by
  obtain ⟨m, k2, k3, k4, k5, k6⟩ := z
  have hT8 := m.2.1.2.1
  have ht8 : t < 8 := by omega
  have s5 : σ 5 0 0 = nI t := by rw [m.2.1.2.2.2.2.2.2.2.2.2.2.1]; exact hr
  obtain ⟨b1, b2, b3, b4, b5, b6, b7, b8, ⟨p, hp, b9⟩⟩ := m.2.2.1 t ht
  obtain ⟨x, hx⟩ : ∃ x, x = ρ 12 0 t + 1 := ⟨_, rfl⟩
  unfold F_Sched_useQuantum
  rw [s5, vG_at ht8 (by omega), b7, ← hx]
  simp only [vL]
  rw [ed_st_s, ed_st_s]
  have m1 : gM (ed_st σ 14 t 0 x) (ed_st ρ 12 0 t x) T P q := m.used ht
  have c1 : ag_ ρ (ed_st ρ 12 0 t x) [12] := ag_.rf.st (by decide)
  by_cases c : 3 ≤ x
  · rw [if_pos c, if_pos c]
    obtain ⟨σ2, hσ2⟩ : ∃ w, w = ed_st (ed_st σ 14 t 0 x) 14 t 0 0 := ⟨_, rfl⟩
    obtain ⟨ρ2, hρ2⟩ : ∃ w, w = ed_st (ed_st ρ 12 0 t x) 12 0 t 0 := ⟨_, rfl⟩
    have m2 : gM σ2 ρ2 T P q := by rw [hσ2, hρ2]; exact m1.used ht
    have c2 : ag_ ρ ρ2 [12] := by rw [hρ2]; exact c1.st (by decide)
    have d2 : ag_ σ σ2 [14] := by rw [hσ2]; exact (show ag_ σ (ed_st σ 14 t 0 x) [14] from ag_.rf.st (by decide)).st (by decide)
    rw [← hσ2, ← hρ2]
    have z2 : zM b σ2 ρ2 T P q := ⟨m2, k2.ag c2 (by decide), k3.ag c2 (by decide) (fun _ w => w), k4.ag c2 (by decide) rfl, k5.ag c2 (by decide), k6.ag c2 (by decide)⟩
    have keep : ∃ σ' ρ' q', some σ2 = some σ' ∧ some ρ2 = some ρ' ∧ zM (b + 1) σ' ρ' T P q' ∧ ti_ ρ' T q' ∧ (lk_ ρ' T q' ∧ q' 33 = [] ∧ na_ ρ' T q') ∧ ρ' 46 0 0 = ρ 46 0 0 := ⟨σ2, ρ2, q, rfl, rfl, z2.mo (by omega), ti.ag c2 (by decide), ⟨hl.1.ag c2 (by decide), hl.2.1, hl.2.2.ag c2 (by decide)⟩, c2.at 46 (by decide) 0 0⟩
    have r6 : ρ2 6 0 t = nI p := by rw [c2.at 6 (by decide)]; exact b9
    have s9 : σ2 9 t 0 = nI p := by rw [d2.at 9 (by decide), b2]; exact b9
    have hr2 : ρ2 44 0 0 = nI t := by rw [c2.at 44 (by decide)]; exact hr
    obtain ⟨y, en, hn⟩ := m_next hT8 m2.2.1.2.2.2.2.2.1
    have hnx := next_is (fun u hu => (m2.2.2.1 u hu).2.2.2.2.2.2.2.2) m2.2.2.2.2.2.2.2.1 hn
    have hlk : ∀ p', p < p' → p' < 8 → q (8 + p') = [] := fun p' h1 h2 => hl.1.2 t p hr ht b9 p' h1 h2
    rw [s9, vG_at hp (by omega), (m2.1 (8 + p) (by omega)).1, vB2_at en]
    cases hq : q (8 + p) with
    | nil =>
      rw [if_pos (show nI ([] : List Nat).length ≤ 0 by decide)]
      rcases hnx with ⟨he, hy⟩ | ⟨p0, h, l, hp0, hq0, hy, hab⟩
      · rw [hy, if_pos (show (-1 : Int32) < 0 by decide)]
        exact keep
      · have hh := ((m2.2.2.2.2.2.2.2.1.1 p0 hp0).2 h).mp (by rw [hq0]; exact List.mem_cons_self)
        have hne : p0 ≠ p := fun e => by rw [e, hq] at hq0; exact absurd hq0.symm (List.cons_ne_nil _ _)
        rw [hy, if_neg (nI_pos (by omega)), vG_at (by omega) (by omega), hh.2.2, r6, if_neg (fun e => hne ((nI_eq (by omega) (by omega)).mp e))]
        exact keep
    | cons h' l' =>
      have hlen : ¬ nI (h' :: l').length ≤ 0 := nI_nle (by simp) (by
        have := (m2.1 (8 + p) (by omega)).2.1
        have c8 := ed_cap8 (8 + p)
        rw [hq] at this
        omega)
      rw [if_neg hlen]
      rcases hnx with ⟨he, hy⟩ | ⟨p0, h, l, hp0, hq0, hy, hab⟩
      · rw [he p hp] at hq; exact absurd hq.symm (List.cons_ne_nil _ _)
      · have hpe : p0 = p := by
          rcases Nat.lt_trichotomy p0 p with w | w | w
          · rw [hab p w hp] at hq; exact absurd hq.symm (List.cons_ne_nil _ _)
          · exact w
          · rw [hlk p0 w hp0] at hq0; exact absurd hq0.symm (List.cons_ne_nil _ _)
        subst hpe
        have hh := ((m2.2.2.2.2.2.2.2.1.1 p0 hp0).2 h).mp (by rw [hq0]; exact List.mem_cons_self)
        rw [hy, if_neg (nI_pos (by omega)), vG_at (show h < 8 by omega) (by omega), hh.2.2, r6, if_pos rfl]
        obtain ⟨σ3, ρ3, e1, e2, g3, a3, d3, g4, g5, g6, g7⟩ := s_back2 m2 (z2.2.1.nw hb) ht hr2 hp r6
        have s52 : σ2 5 0 0 = nI t := by rw [d2.at 5 (by decide)]; exact s5
        rw [s52, vB1_at e1, vB1_at e2, a3.at 9 (by decide), s9]
        have hq3 : va_up q (8 + p0) (q (8 + p0) ++ [t]) (8 + p0) = h :: (l ++ [t]) := by rw [up_s, hq0]; rfl
        obtain ⟨σ4, ρ4, e3, e4, m4, a4, d4, i1, i2, i3, i4, i5⟩ := s_run g3 hp hq3 g7
        rw [vB1_at e3, vB1_at e4]
        have dd : ag_ ρ ρ4 [7, 12, 16, 44, 45, 49, 51] := ((c2.mo (by decide)).tr (d3.mo (by decide))).tr (d4.mo (by decide))
        have h72 : ∀ u, u < T → (ρ4 7 0 u = 2 ↔ ρ 7 0 u = 2) := fun u hu => by
          rw [← c2.at 7 (by decide) 0 u]
          have s1 : ρ4 7 0 u = 2 ↔ ρ3 7 0 u = 2 := by
            by_cases cu : u = h
            · subst cu
              have h4 := m4.2.2.2.2.1
              rcases h4 with ⟨w1, w2⟩ | ⟨t', w0, w1, w2⟩
              · rw [i2] at w1; exact absurd w1 (nI_m1 (by omega))
              · rw [i2] at w1
                have := (nI_eq (by omega) (by omega)).mp w1
                subst this
                rw [(w2 u hu).mpr rfl, i5]
                exact ⟨fun w => absurd w (by decide), fun w => absurd w (by decide)⟩
            · rw [i4 u cu]
          have s2 : ρ3 7 0 u = 2 ↔ ρ2 7 0 u = 2 := by
            by_cases cu : u = t
            · subst cu
              have h0 : ρ2 7 0 u = 0 := by
                rcases m2.2.2.2.2.1 with ⟨w1, w2⟩ | ⟨t', w0, w1, w2⟩
                · rw [hr2] at w1; exact absurd w1 (nI_m1 (by omega))
                · rw [hr2] at w1
                  have := (nI_eq (by omega) (by omega)).mp w1
                  subst this
                  exact (w2 u hu).mpr rfl
              rw [g5, h0]
              exact ⟨fun w => absurd w (by decide), fun w => absurd w (by decide)⟩
            · rw [g4 u cu]
          exact s1.trans s2
        have qn : ∀ r, r ≠ 8 + p0 → va_up (va_up q (8 + p0) (q (8 + p0) ++ [t])) (8 + p0) (l ++ [t]) r = q r := fun r hr => by rw [up_n hr, up_n hr]
        refine ⟨σ4, ρ4, _, rfl, rfl, ⟨m4, ?_, k3.ag dd (by decide) (fun u hu => by rw [qn 32 (by omega)] at hu; exact hu), k4.ag dd (by decide) (qn 33 (by omega)), k5.ag dd (by decide), k6.ag dd (by decide)⟩, ti.ag7 dd (by decide) h72 (qn 33 (by omega)), ⟨⟨fun w => ?_, fun t' p' w1 w2 w3 p'' w4 w5 => ?_⟩, ?_, fun u hu w1 w2 => ?_⟩, dd.at 46 (by decide) 0 0⟩
        · have := z2.2.1.s hb g6 (d3.at 52 (by decide) 0 0)
          exact this.ag d4 (by decide)
        · rw [i2] at w; exact absurd w (nI_m1 (by omega))
        · rw [i2] at w1
          have e1 := (nI_eq (by omega) (by omega)).mp w1
          subst e1
          rw [d4.at 6 (by decide), i3] at w3
          have hp'8 : p' = p0 := by
            obtain ⟨pp, hpp, w6⟩ := (m4.2.2.1 h w2).2.2.2.2.2.2.2.2
            rw [d4.at 6 (by decide), i3] at w6
            have := (nI_eq (by omega) (by omega)).mp w6
            rcases Nat.lt_or_ge p' 8 with y | y
            · exact ((nI_eq (by omega) (by omega)).mp w3).symm
            · omega
          subst hp'8
          rw [qn _ (by omega)]
          exact hlk p'' w4 w5
        · rw [qn 33 (by omega)]; exact hl.2.1
        · rw [dd.at 14 (by decide)] at w2
          rw [qn u (by omega)]
          exact hl.2.2 u hu ((h72 u hu).mp w1) w2
  · rw [if_neg c, if_neg c]
    exact ⟨_, _, q, rfl, rfl, ⟨m1, (k2.ag c1 (by decide)).mo (by omega), k3.ag c1 (by decide) (fun _ w => w), k4.ag c1 (by decide) rfl, k5.ag c1 (by decide), k6.ag c1 (by decide)⟩, ti.ag c1 (by decide), ⟨hl.1.ag c1 (by decide), hl.2.1, hl.2.2.ag c1 (by decide)⟩, c1.at 46 (by decide) 0 0⟩
theorem gM.clock {σ ρ : ed_S} {T P : Nat} {q : Nat → List Nat} {v : Int32} (m : gM σ ρ T P q) : gM (ed_st σ 3 0 0 v) (ed_st ρ 46 0 0 v) T P q := by
  obtain ⟨nQ, nA, nT, nU, nR, nC, nW, nD, nX, nV, nI', nP, nH, nO⟩ := m
  have a : ag_ σ (ed_st σ 3 0 0 v) [3] := ag_.rf.st (by decide)
  have b : ag_ ρ (ed_st ρ 46 0 0 v) [46] := ag_.rf.st (by decide)
  have hhc : ∀ o, hc_ (ed_st ρ 46 0 0 v) o = hc_ ρ o := fun o => hc_.ag b (by decide) o
  have hpc : ∀ o, pc_ (ed_st ρ 46 0 0 v) T (q 33).length o = pc_ ρ T (q 33).length o := fun o => pc_.ag b (by decide) (fun u _ => by rw [b.at 7 (by decide)]) o
  refine ⟨nQ.ag a (by decide), ?_, nT.ag a b (by decide) (by decide), nU.ag a b (by decide) (by decide), nR.ag b (by decide), nC.ag b (by decide), nW.ag a b (by decide) (by decide), nD.ag b (by decide), nX.ag a b (by decide) (by decide), nV.ag b (by decide), nI'.ag b (by decide), nP.ag a b (by decide) (by decide), nH.ag a (by decide) hhc hpc, nO.ag a b (by decide) (by decide) hhc hpc⟩
  obtain ⟨a1, a2, a3', a4, a5, a6, a7, a8, a9, a10, a11, a12, a13⟩ := nA
  refine ⟨a1, a2, ?_, ?_, ?_, ?_, ?_, ?_, ?_, ?_, ?_, ?_, ?_⟩
  · rw [a.at 0 (by decide)]; exact a3'
  · rw [b.at 42 (by decide)]; exact a4
  · rw [a.at 1 (by decide)]; exact a5
  · rw [b.at 43 (by decide)]; exact a6
  · rw [a.at 2 (by decide), b.at 50 (by decide)]; exact a7
  · rw [ed_st_s, ed_st_s]
  · rw [a.at 4 (by decide), b.at 47 (by decide)]; exact a9
  · rw [b.at 47 (by decide)]; exact a10
  · rw [a.at 5 (by decide), b.at 44 (by decide)]; exact a11
  · rw [a.at 6 (by decide), b.at 45 (by decide)]; exact a12
  · rw [a.at 7 (by decide), b.at 49 (by decide)]; exact a13
/-- one tick -/
theorem s_once {b T P C : Nat} {σ ρ : ed_S} {q : Nat → List Nat} (z : zM b σ ρ T P q) (hb : b + 140 < 1000000) (hC : C < 100000) (h46 : ρ 46 0 0 = nI C) (hl : ρ 47 0 0 = 0 → q 33 = [] ∧ na_ ρ T q) : ∃ σ' ρ' q', F_Desk_passOneTick σ = some σ' ∧ F_Mod_once ρ = some ρ' ∧ zM (b + 138) σ' ρ' T P q' ∧ ti_ ρ' T q' ∧ (ρ' 47 0 0 = 0 → lk_ ρ' T q' ∧ q' 33 = [] ∧ na_ ρ' T q') ∧ ρ' 46 0 0 = nI (C + 1) := by
  have m := z.1
  have hT8 := m.2.1.2.1
  have s3 : σ 3 0 0 = nI C := by rw [m.2.1.2.2.2.2.2.2.2.1]; exact h46
  have a11 := m.2.1.2.2.2.2.2.2.2.2.2.2.1
  obtain ⟨σ1, hσ1⟩ : ∃ w, w = ed_st σ 3 0 0 (nI (C + 1)) := ⟨_, rfl⟩
  obtain ⟨ρ1, hρ1⟩ : ∃ w, w = ed_st ρ 46 0 0 (nI (C + 1)) := ⟨_, rfl⟩
  have b1 : ag_ ρ ρ1 [46] := by rw [hρ1]; exact ag_.rf.st (by decide)
  have m1 : gM σ1 ρ1 T P q := by rw [hσ1, hρ1]; exact m.clock
  have r46 : ρ1 46 0 0 = nI (C + 1) := by rw [hρ1, ed_st_s]
  have z1 : zM b σ1 ρ1 T P q := ⟨m1, z.2.1.ag b1 (by decide), z.2.2.1.ag b1 (by decide) (fun _ w => w), z.2.2.2.1.ag b1 (by decide) rfl, z.2.2.2.2.1.ag b1 (by decide), z.2.2.2.2.2.ag b1 (by decide)⟩
  obtain ⟨σ2, ρ2, q2, e1, e2, z2, t2⟩ := s_timers (x1 := ρ 44 0 0) (C := C + 1) (by omega) (by omega) ed_fu 0 b σ1 ρ1 q (by show _ < 64 + 0; omega) (by omega) z1 r46 (by omega)
  have e1 : F_Desk_signalTimersDue σ1 = some σ2 := e1
  have e2 : F_Mod_once_17 ed_fu (ρ 44 0 0) 0 ρ1 = F_Mod_once_78 ed_fu (ρ 44 0 0) 0 ρ2 := e2
  have r46' : ρ2 46 0 0 = nI (C + 1) := by rw [t2.2.1.at 46 (by decide)]; exact r46
  obtain ⟨σ3, ρ3, q3, e3, e4, z3, t3⟩ := s_outs (x1 := ρ 44 0 0) (C := C + 1) ed_fu 0 _ σ2 ρ2 q2 (by show _ < 64 + 0; omega) (by omega) z2 r46' (by omega)
  have e3 : F_Desk_endWaitsTimedOut σ2 = some σ3 := e3
  have e4 : F_Mod_once_78 ed_fu (ρ 44 0 0) 0 ρ2 = F_Mod_once_78 1 (ρ 44 0 0) (nI T) ρ3 := e4
  have t := t2.tr t3
  obtain ⟨ρ4, e5, z4, ti4, b4⟩ := z3.tidy
  obtain ⟨σ5, ρ5, q5, e6, e7, z5, a5, b5, g4, g5, g6, g7⟩ := z4.look (by omega)
  have ti5 := g7 ti4
  have r47 : ρ5 47 0 0 = ρ 47 0 0 := by rw [b5.at 47 (by decide), b4.at 47 (by decide), t.2.1.at 47 (by decide), b1.at 47 (by decide)]
  have r46'' : ρ5 46 0 0 = nI (C + 1) := by rw [b5.at 46 (by decide), b4.at 46 (by decide), t.2.1.at 46 (by decide)]; exact r46
  have hl5 : ρ5 47 0 0 = 0 → lk_ ρ5 T q5 ∧ q5 33 = [] ∧ na_ ρ5 T q5 := fun w => by
    have w' := w
    rw [r47] at w'
    obtain ⟨y1, y2⟩ := hl w'
    have na3 := (y2.ag b1 (by decide) : na_ ρ1 T q).tk hT8 t
    refine ⟨g6 (by rw [b4.at 47 (by decide), t.2.1.at 47 (by decide), b1.at 47 (by decide)]; exact w'), ?_, fun u hu w1 w2 => ?_⟩
    · rw [g4 33 (by omega), t.2.2.1 33 (Or.inr rfl)]; exact y1
    · rw [g5 u hu, b4.at 7 (by decide)] at w1
      rw [b5.at 14 (by decide), b4.at 14 (by decide)] at w2
      rw [g4 u (by omega)]
      exact na3 u hu w1 w2
  have eD : F_Desk_passOneTick σ = (if ρ5 47 0 0 = 0 then (if ρ 44 0 0 = -1 then (some σ5) else (if ρ5 44 0 0 = ρ 44 0 0 then (vB1 (F_Sched_useQuantum σ5) fun σ12 => (some σ12)) else (some σ5))) else (some σ5)) := by
    unfold F_Desk_passOneTick
    simp only [vL]
    rw [s3, nI_1, ← hσ1, vB1_at e1, vB1_at e3, vB1_at e6, z5.1.2.1.2.2.2.2.2.2.2.2.1, z5.1.2.1.2.2.2.2.2.2.2.2.2.2.1, a11]
  have eM0 : F_Mod_once ρ = F_Mod_once_78 1 (ρ 44 0 0) (nI T) ρ3 := by
    unfold F_Mod_once
    simp only [vL]
    rw [h46, nI_1, ← hρ1, e2, e4]
  have eM1 : ∀ x1 : Int32, F_Mod_once_78 1 x1 (nI T) ρ3 = (if ρ5 47 0 0 = 1 then (some ρ5) else (if x1 < 0 then (some ρ5) else (if ρ5 44 0 0 = x1 then (vG x1 8 fun j9 => (vG x1 8 fun j13 => vL (ed_st ρ5 12 0 j13 ((ρ5 12 0 j9) + 1)) fun σ17 => (vG x1 8 fun j19 => (if 3 ≤ (σ17 12 0 j19) then (vG x1 8 fun j24 => vL (ed_st σ17 12 0 j24 0) fun σ28 => (vB2 (F_Mod_next σ28) fun r32 σ30 => (if r32 < 0 then (some σ30) else (vG r32 8 fun j34 => (vG x1 8 fun j38 => (if (σ30 6 0 j34) = (σ30 6 0 j38) then (vB1 (F_Mod_ready x1 σ30) fun σ43 => (vB1 (F_Mod_run r32 σ43) fun σ45 => (some σ45))) else (some σ30))))))) else (some σ17))))) else (some ρ5)))) := fun x1 => by
    show (if ρ3 43 0 0 ≤ nI T then _ else _) = _
    rw [z3.1.2.1.2.2.2.2.2.1, if_pos (le_rf _), vB1_at e5, vB1_at e7]
  rw [eD, eM0, eM1]
  have keep : ∃ σ' ρ' q', some σ5 = some σ' ∧ some ρ5 = some ρ' ∧ zM (b + 138) σ' ρ' T P q' ∧ ti_ ρ' T q' ∧ (ρ' 47 0 0 = 0 → lk_ ρ' T q' ∧ q' 33 = [] ∧ na_ ρ' T q') ∧ ρ' 46 0 0 = nI (C + 1) := ⟨σ5, ρ5, q5, rfl, rfl, z5.mo (by omega), ti5, hl5, r46''⟩
  rcases z5.1.2.1.2.2.2.2.2.2.2.2.2.1 with c | c
  · rw [if_pos c, if_neg (show ¬ ρ5 47 0 0 = 1 by rw [c]; decide)]
    rcases m.2.2.2.2.1 with ⟨w1, w2⟩ | ⟨u, hu, w1, w2⟩
    · rw [w1, if_pos rfl, if_pos (show (-1 : Int32) < 0 by decide)]
      exact keep
    · have hu8 : u < 8 := by omega
      rw [w1, if_neg (nI_m1 (by omega)), if_neg (nI_pos (by omega))]
      by_cases cr : ρ5 44 0 0 = nI u
      · rw [if_pos cr, if_pos cr]
        obtain ⟨σ6, ρ6, q6, k1, k2, z6, ti6, l6, k3⟩ := s_quant z5 (by omega) ti5 (hl5 c) hu cr
        simp only [vG_at hu8 (show 8 < 2 ^ 31 by omega)]
        rw [vB1_at k1]
        exact ⟨σ6, ρ6, q6, rfl, k2, z6.mo (by omega), ti6, fun _ => l6, by rw [k3]; exact r46''⟩
      · rw [if_neg cr, if_neg cr]
        exact keep
  · rw [if_neg (show ¬ ρ5 47 0 0 = 0 by rw [c]; decide), if_pos c]
    exact keep
/-- several ticks -/
theorem s_ticks {T P k : Nat} (hk : k < 10) : ∀ (n j b C : Nat) (σ ρ : ed_S) (q : Nat → List Nat), k < n + j → j ≤ k → zM b σ ρ T P q → b + 138 * (k - j) + 140 < 1000000 → C + (k - j) < 100000 → ρ 46 0 0 = nI C → ti_ ρ T q → (ρ 47 0 0 = 0 → lk_ ρ T q ∧ q 33 = [] ∧ na_ ρ T q) → ∃ σ' ρ' q', F_Desk_tick_14 n (nI k) (nI j) σ = some (nI (C + (k - j)), σ') ∧ F_Mod_tick_14 n (nI k) (nI j) ρ = some (nI (C + (k - j)), ρ') ∧ zM (b + 138 * (k - j)) σ' ρ' T P q' ∧ ti_ ρ' T q' ∧ (ρ' 47 0 0 = 0 → lk_ ρ' T q' ∧ q' 33 = [] ∧ na_ ρ' T q') ∧ ρ' 46 0 0 = nI (C + (k - j)) := by
  intro n
  induction n with
  | zero => intro j b C σ ρ q h1 h2; omega
  | succ n ih =>
    intro j b C σ ρ q h1 h2 z hb hC h46 ti hl
    rcases Nat.lt_or_ge j k with hj | hj
    · obtain ⟨σ1, ρ1, q1, e1, e2, z1, ti1, l1, g1⟩ := s_once z (by omega) (by omega) h46 (fun w => (hl w).2)
      obtain ⟨σ', ρ', q', v1, v2, v3, v4, v5, v6⟩ := ih (j + 1) (b + 138) (C + 1) σ1 ρ1 q1 (by omega) (by omega) z1 (by omega) (by omega) g1 ti1 l1
      have hs1 : C + 1 + (k - (j + 1)) = C + (k - j) := by omega
      have hs2 : b + 138 + 138 * (k - (j + 1)) = b + 138 * (k - j) := by omega
      rw [hs1] at v1 v2 v6
      rw [hs2] at v3
      refine ⟨σ', ρ', q', ?_, ?_, v3, v4, v5, v6⟩
      · rw [← v1]
        show (if nI k ≤ nI j then _ else _) = _
        rw [if_neg (nI_ge hj (by omega)), vB1_at e1, nI_1]
      · rw [← v2]
        show (if nI k ≤ nI j then _ else _) = _
        rw [if_neg (nI_ge hj (by omega)), vB1_at e2, nI_1]
    · have hje : j = k := by omega
      subst hje
      rw [Nat.sub_self, Nat.add_zero, Nat.mul_zero, Nat.add_zero]
      refine ⟨σ, ρ, q, ?_, ?_, z, ti, hl, h46⟩
      · show (if nI j ≤ nI j then _ else _) = _
        rw [if_pos (le_rf _), z.1.2.1.2.2.2.2.2.2.2.1, h46]
        rfl
      · show (if nI j ≤ nI j then _ else _) = _
        rw [if_pos (le_rf _), h46]
        rfl
theorem c_tick (n : Nat) (x1 : Int32) (σ ρ : ed_S) (hn : n < 512) (hS : zS n σ ρ) : jt_ (zS (n + 1)) (F_Desk_tick x1 σ) (F_Mod_tick x1 ρ) := by
  have hS' := hS.mo
  obtain ⟨T, P, q, z, ⟨C, hC, h46⟩, ti, hl⟩ := hS
  unfold F_Desk_tick F_Mod_tick
  rw [vB2_at (d_is _ _ _ _), vB2_at (m_is _ _ _ _)]
  refine jt_if Iff.rfl (fun _ => jt_b rfl hS') (fun w => ?_)
  obtain ⟨k, hk0, hk, rfl⟩ := iw_1n (n := 9) rfl (by omega) w
  obtain ⟨σ', ρ', q', v1, v2, v3, v4, v5, v6⟩ := s_ticks (k := k) (by omega) ed_fu 0 (1300 * n) C σ ρ q (by show _ < 64 + 0; omega) (by omega) z (by omega) (by omega) h46 ti hl
  have v1 : F_Desk_tick_14 ed_fu (nI k) 0 σ = some (nI (C + (k - 0)), σ') := v1
  have v2 : F_Mod_tick_14 ed_fu (nI k) 0 ρ = some (nI (C + (k - 0)), ρ') := v2
  rw [v1, v2]
  exact jt_b rfl ⟨T, P, q', v3.mo (by omega), ⟨C + (k - 0), by omega, v6⟩, v4, v5⟩
