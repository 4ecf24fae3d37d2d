/-! ===== the pure part: tick ===== -/
/-- what the timers and the time limits change -/
def tk_ (σ ρ σ' ρ' : ed_S) (q q' : Nat → List Nat) : Prop := ag_ σ σ' [10, 11, 18, 25, 26, 27, 28, 29, 39] ∧ ag_ ρ ρ' [7, 8, 13, 16, 20, 21, 24, 25, 26, 51] ∧ (∀ r, r < 8 ∨ r = 33 → q' r = q r) ∧ ∀ u, ρ' 7 0 u = ρ 7 0 u ∨ (ρ 7 0 u = 2 ∧ ρ' 7 0 u = 1)
theorem tk_.rf {σ ρ : ed_S} {q : Nat → List Nat} : tk_ σ ρ σ ρ q q := ⟨ag_.rf, ag_.rf, fun _ _ => rfl, fun _ => Or.inl rfl⟩
theorem tk_.tr {σ ρ σ1 ρ1 σ2 ρ2 : ed_S} {q q1 q2 : Nat → List Nat} (h : tk_ σ ρ σ1 ρ1 q q1) (h2 : tk_ σ1 ρ1 σ2 ρ2 q1 q2) : tk_ σ ρ σ2 ρ2 q q2 := ⟨h.1.tr h2.1, h.2.1.tr h2.2.1, fun r hr => (h2.2.2.1 r hr).trans (h.2.2.1 r hr), fun u => by
  rcases h.2.2.2 u with e | e
  · rw [← e]; exact h2.2.2.2 u
  · rcases h2.2.2.2 u with e2 | e2
    · exact Or.inr ⟨e.1, by rw [e2]; exact e.2⟩
    · rw [e.2] at e2; exact absurd e2.1 (by decide)⟩
theorem tk_.re {T : Nat} {σ ρ σ' ρ' : ed_S} {q q' : Nat → List Nat} (h : re_ T σ ρ σ' ρ' q q') : tk_ σ ρ σ' ρ' q q' := ⟨h.1.mo (by decide), h.2.1.mo (by decide), fun r hr => h.2.2.1 r (by omega), h.2.2.2⟩
theorem na_.tk {T : Nat} {σ ρ σ' ρ' : ed_S} {q q' : Nat → List Nat} (hT : T ≤ 8) (h : tk_ σ ρ σ' ρ' q q') (n : na_ ρ T q) : na_ ρ' T q' := fun t ht w v => by
  rw [h.2.2.1 t (by omega)]
  rw [h.2.1.at 14 (by decide)] at v
  refine n t ht ?_ v
  rcases h.2.2.2 t with e | e
  · rw [← e]; exact w
  · exact e.1
/-- the timers that are due -/
theorem s_timers {T P C : Nat} {x1 : Int32} (hC0 : 0 < C) (hC : C < 2 ^ 30) : ∀ (n k b : Nat) (σ ρ : ed_S) (q : Nat → List Nat), 16 < n + k → k ≤ 16 → zM b σ ρ T P q → ρ 46 0 0 = nI C → b + 8 * (16 - k) + 8 < 1000000 → ∃ σ' ρ' q', F_Desk_signalTimersDue_2 n (nI k) σ = some σ' ∧ F_Mod_once_17 n x1 (nI k) ρ = F_Mod_once_78 ed_fu x1 0 ρ' ∧ zM (b + 8 * (16 - k)) σ' ρ' T P q' ∧ tk_ σ ρ σ' ρ' q q' := by
  intro n
  induction n with
  | zero => intro k b σ ρ q h1 h2; omega
  | succ n ih =>
    intro k b σ ρ q h1 h2 z h46 hb
    rcases Nat.lt_or_ge k 16 with hk | hk
    · have z' := z
      obtain ⟨m, k2, k3, k4, k5, k6⟩ := z
      have s3 : σ 3 0 0 = nI C := by rw [m.2.1.2.2.2.2.2.2.2.1]; exact h46
      have hsum : b + 8 * (16 - k) = b + 8 + 8 * (16 - (k + 1)) := by omega
      have eD : F_Desk_signalTimersDue_2 (n + 1) (nI k) σ = (vB2 (F_Obj_isThere k σ) fun r8 σ6 => (if r8 = 0 then (F_Desk_signalTimersDue_2 n (nI (k + 1)) σ6) else (if (σ6 22 k 0) = 4 then (if (σ6 29 k 0) = (σ6 3 0 0) then (vL (ed_st σ6 29 k 0 (-1)) fun σ12 => (vL (ed_st σ12 26 k 0 1) fun σ14 => (vB1 (F_Desk_release σ14) fun σ16 => (F_Desk_signalTimersDue_2 n (nI (k + 1)) σ16)))) else (F_Desk_signalTimersDue_2 n (nI (k + 1)) σ6)) else (F_Desk_signalTimersDue_2 n (nI (k + 1)) σ6)))) := by
        show (if (16 : Int32) ≤ nI k then _ else _) = _
        rw [if_neg (by rw [show (16 : Int32) = nI 16 from rfl]; exact nI_ge hk (by omega)), vG_at hk (by omega), nI_1]
      have eM : F_Mod_once_17 (n + 1) x1 (nI k) ρ = (if ρ 19 0 k = 0 then (F_Mod_once_17 n x1 (nI (k + 1)) ρ) else (if ρ 22 0 k = 4 then (if ρ 26 0 k = nI C then (vB1 (F_Mod_release (ed_st (ed_st ρ 26 0 k 0) 20 0 k 1)) fun σ23 => (F_Mod_once_17 n x1 (nI (k + 1)) σ23)) else (F_Mod_once_17 n x1 (nI (k + 1)) ρ)) else (F_Mod_once_17 n x1 (nI (k + 1)) ρ))) := by
        show (if (16 : Int32) ≤ nI k then _ else _) = _
        rw [if_neg (by rw [show (16 : Int32) = nI 16 from rfl]; exact nI_ge hk (by omega))]
        unfold F_Mod_signal
        simp only [vG_at hk (show 16 < 2 ^ 31 by omega), nI_1, vL, h46]
        cases F_Mod_release (ed_st (ed_st ρ 26 0 k 0) 20 0 k 1) <;> rfl
      have skip : F_Desk_signalTimersDue_2 (n + 1) (nI k) σ = F_Desk_signalTimersDue_2 n (nI (k + 1)) σ → F_Mod_once_17 (n + 1) x1 (nI k) ρ = F_Mod_once_17 n x1 (nI (k + 1)) ρ → ∃ σ' ρ' q', F_Desk_signalTimersDue_2 (n + 1) (nI k) σ = some σ' ∧ F_Mod_once_17 (n + 1) x1 (nI k) ρ = F_Mod_once_78 ed_fu x1 0 ρ' ∧ zM (b + 8 * (16 - k)) σ' ρ' T P q' ∧ tk_ σ ρ σ' ρ' q q' := fun e1 e2 => by
        rw [e1, e2, hsum]
        exact ih (k + 1) (b + 8) σ ρ q (by omega) (by omega) (z'.mo (by omega)) h46 (by omega)
      have bb : ag_ ρ (ed_st (ed_st ρ 26 0 k 0) 20 0 k 1) [20, 26] := (ag_.rf.st (by decide)).st (by decide)
      have bn : ∀ x j, j ≠ k → ed_st (ed_st ρ 26 0 k 0) 20 0 k 1 x 0 j = ρ x 0 j := fun x j hj => by rw [ed_st_n (by omega), ed_st_n (by omega)]
      have obn : ∀ (σ2 : ed_S), (∀ x i j, i ≠ k → σ2 x i j = σ x i j) → ∀ u, u ≠ k → ob_ σ ρ u → ob_ σ2 (ed_st (ed_st ρ 26 0 k 0) 20 0 k 1) u := fun σ2 hs u hu hou => by
        unfold ob_ at *
        simp only [bn _ u hu, hs _ u _ hu, bb.at 28 (by decide), bb.at 29 (by decide), bb.at 30 (by decide)]
        exact hou
      rcases d_there m hk with ⟨c1, c2⟩ | ⟨c1, c2⟩
      · rw [vB2_at c2, if_neg (show ¬ (1 : Int32) = 0 by decide)] at eD
        have hob := (m.2.2.2.2.2.2.2.2.2.2.2.2.2.2 k hk c1).1
        obtain ⟨o1, o2, o3, o4, o5, o6, o7, o8, o9, o10, o11, o12, o13, o14, o15⟩ := hob
        rw [o2, s3] at eD
        rw [if_neg (show ¬ ρ 19 0 k = 0 by rw [o1]; decide)] at eM
        by_cases h22 : ρ 22 0 k = 4
        · rw [if_pos h22] at eD eM
          have hiff : σ 29 k 0 = nI C ↔ ρ 26 0 k = nI C := by
            rcases o12 h22 with ⟨w1, w2⟩ | ⟨w1, w2⟩
            · rw [w1, w2]
              exact ⟨fun w => absurd w.symm (nI_m1 (by omega)), fun w => absurd w.symm (nI_ne0 hC0 (by omega))⟩
            · rw [w1]
          by_cases h26 : ρ 26 0 k = nI C
          · rw [if_pos (hiff.mpr h26)] at eD
            rw [if_pos h26] at eM
            simp only [vL] at eD
            have aa : ag_ σ (ed_st (ed_st σ 29 k 0 (-1)) 26 k 0 1) [26, 29] := (ag_.rf.st (by decide)).st (by decide)
            have m2 : gM (ed_st (ed_st σ 29 k 0 (-1)) 26 k 0 1) (ed_st (ed_st ρ 26 0 k 0) 20 0 k 1) T P q := m.ob (aa.mo (by decide)) (bb.mo (by decide)) (fun u hu _ hou => by
              by_cases cu : u = k
              · subst cu
                have t1 : ed_st (ed_st σ 29 u 0 (-1)) 26 u 0 1 26 u 0 = 1 := by simp [ed_st]
                have t2 : ed_st (ed_st σ 29 u 0 (-1)) 26 u 0 1 29 u 0 = -1 := by simp [ed_st]
                have t3 : ed_st (ed_st ρ 26 0 u 0) 20 0 u 1 20 0 u = 1 := by simp [ed_st]
                have t4 : ed_st (ed_st ρ 26 0 u 0) 20 0 u 1 26 0 u = 0 := by simp [ed_st]
                unfold ob_
                rw [t1, t2, t3, t4]
                simp only [aa.at 22 (by decide), aa.at 27 (by decide), aa.at 28 (by decide), aa.at 30 (by decide), aa.at 43 (by decide), aa.at 44 (by decide), aa.at 45 (by decide), bb.at 19 (by decide), bb.at 21 (by decide), bb.at 22 (by decide), bb.at 24 (by decide), bb.at 25 (by decide), bb.at 27 (by decide), bb.at 28 (by decide), bb.at 29 (by decide), bb.at 30 (by decide)]
                refine ⟨o1, o2, o3, o4, o5, o6, o7, o8, Or.inr trivial, fun w => ?_, fun _ => trivial, fun _ => Or.inl ⟨trivial, trivial⟩, o13, o14, o15⟩
                rw [h22] at w
                rcases w with w | w | w <;> exact absurd w (by decide)
              · exact obn _ (fun x i j hi => by rw [ed_st_n (by omega), ed_st_n (by omega)]) u cu hou)
            obtain ⟨σ2, ρ2, q2, w1, w2, w3, w4⟩ := zM.rel m2 (k2.ag bb (by decide)) (k4.ag bb (by decide) rfl) (k5.ag bb (by decide)) (k6.ag bb (by decide)) (show b + 8 < 1000000 by omega)
            rw [vB1_at w1] at eD
            rw [vB1_at w2] at eM
            have f1 : tk_ σ ρ (ed_st (ed_st σ 29 k 0 (-1)) 26 k 0 1) (ed_st (ed_st ρ 26 0 k 0) 20 0 k 1) q q := ⟨aa.mo (by decide), bb.mo (by decide), fun _ _ => rfl, fun u => Or.inl (bb.at 7 (by decide) 0 u)⟩
            have f2 := f1.tr (tk_.re w4)
            obtain ⟨σ', ρ', q', v1, v2, v3, v4⟩ := ih (k + 1) (b + 8) σ2 ρ2 q2 (by omega) (by omega) w3 (by rw [f2.2.1.at 46 (by decide)]; exact h46) (by omega)
            exact ⟨σ', ρ', q', by rw [eD]; exact v1, by rw [eM]; exact v2, by rw [hsum]; exact v3, f2.tr v4⟩
          · rw [if_neg (fun w => h26 (hiff.mp w))] at eD
            rw [if_neg h26] at eM
            exact skip eD eM
        · rw [if_neg h22] at eD eM
          exact skip eD eM
      · rw [vB2_at c2, if_pos rfl] at eD
        by_cases h19 : ρ 19 0 k = 0
        · rw [if_pos h19] at eM
          exact skip eD eM
        · rw [if_neg h19] at eM
          by_cases h22 : ρ 22 0 k = 4
          · rw [if_pos h22] at eM
            by_cases h26 : ρ 26 0 k = nI C
            · rw [if_pos h26] at eM
              have m2 : gM σ (ed_st (ed_st ρ 26 0 k 0) 20 0 k 1) T P q := m.ob (ag_.rf (L := [26, 27, 28, 29, 30, 43, 44, 45])) (bb.mo (by decide)) (fun u hu hth hou => obn σ (fun _ _ _ _ => rfl) u (fun e => c1 (e ▸ hth)) hou)
              have hu2 : qu_ (ed_st (ed_st ρ 26 0 k 0) 20 0 k 1) q := fun u hu s => k3 u hu (sat_mono (bb.at 14 (by decide) 0 u) (fun j => bb.at 17 (by decide) 0 j) (fun j o hj ho hp w => by
                have hw := (m.2.2.2.2.2.2.1.2.1 u).mp hu
                have co : o ≠ k := fun e => by
                  subst e
                  exact c1 (th_pl m hw.1 hw.2 hj hp)
                unfold sg_ at w ⊢
                simp only [bn _ o co] at w
                exact w) s)
              rw [vB1_at (m_relnop m2 hu2)] at eM
              obtain ⟨σ', ρ', q', v1, v2, v3, v4⟩ := ih (k + 1) (b + 8) σ _ q (by omega) (by omega) (show zM (b + 8) σ (ed_st (ed_st ρ 26 0 k 0) 20 0 k 1) T P q from ⟨m2, (k2.ag bb (by decide)).mo (by omega), hu2, k4.ag bb (by decide) rfl, k5.ag bb (by decide), k6.ag bb (by decide)⟩) (by rw [bb.at 46 (by decide)]; exact h46) (by omega)
              have f1 : tk_ σ ρ σ (ed_st (ed_st ρ 26 0 k 0) 20 0 k 1) q q := ⟨ag_.rf, bb.mo (by decide), fun _ _ => rfl, fun u => Or.inl (bb.at 7 (by decide) 0 u)⟩
              exact ⟨σ', ρ', q', by rw [eD]; exact v1, by rw [eM]; exact v2, by rw [hsum]; exact v3, f1.tr v4⟩
            · rw [if_neg h26] at eM
              exact skip eD eM
          · rw [if_neg h22] at eM
            exact skip eD eM
    · have hke : k = 16 := by omega
      subst hke
      exact ⟨σ, ρ, q, rfl, rfl, z.mo (by omega), tk_.rf⟩
/-- the waits whose time is over -/
theorem s_outs {T P C : Nat} {x1 : Int32} : ∀ (n k b : Nat) (σ ρ : ed_S) (q : Nat → List Nat), T < n + k → k ≤ T → zM b σ ρ T P q → ρ 46 0 0 = nI C → b + (T - k) + 1 < 1000000 → ∃ σ' ρ' q', F_Desk_endWaitsTimedOut_2 n (nI k) σ = some σ' ∧ F_Mod_once_78 n x1 (nI k) ρ = F_Mod_once_78 1 x1 (nI T) ρ' ∧ zM (b + (T - k)) σ' ρ' T P q' ∧ tk_ σ ρ σ' ρ' q q' := by
  intro n
  induction n with
  | zero => intro k b σ ρ q h1 h2; omega
  | succ n ih =>
    intro k b σ ρ q h1 h2 z h46 hb
    have hT8 := z.1.2.1.2.1
    have s1 := z.1.2.1.2.2.2.2.1
    have r43 := z.1.2.1.2.2.2.2.2.1
    rcases Nat.lt_or_ge k T with hk | hk
    · have z' := z
      obtain ⟨m, k2, k3, k4, k5, k6⟩ := z
      have s3 : σ 3 0 0 = nI C := by rw [m.2.1.2.2.2.2.2.2.2.1]; exact h46
      have hk8 : k < 8 := by omega
      have hsum : b + (T - k) = b + 1 + (T - (k + 1)) := by omega
      have b3 := (m.2.2.1 k hk).2.2.1
      have eD : F_Desk_endWaitsTimedOut_2 (n + 1) (nI k) σ = (if ρ 7 0 k = 2 then (if σ 17 k 0 = nI C then (vB1 (F_Desk_endWait (nI k) (-11) σ) fun σ12 => (F_Desk_endWaitsTimedOut_2 n (nI (k + 1)) σ12)) else (F_Desk_endWaitsTimedOut_2 n (nI (k + 1)) σ)) else (F_Desk_endWaitsTimedOut_2 n (nI (k + 1)) σ)) := by
        show (if σ 1 0 0 ≤ nI k then _ else _) = _
        rw [s1, if_neg (nI_ge hk (by omega))]
        simp only [vG_at hk8 (show 8 < 2 ^ 31 by omega), nI_1, b3, s3]
      have eM : F_Mod_once_78 (n + 1) x1 (nI k) ρ = (if ρ 7 0 k = 2 then (if ρ 13 0 k = nI C then (vB1 (F_Mod_go (nI k) (-11) ρ) fun σ57 => (F_Mod_once_78 n x1 (nI (k + 1)) σ57)) else (F_Mod_once_78 n x1 (nI (k + 1)) ρ)) else (F_Mod_once_78 n x1 (nI (k + 1)) ρ)) := by
        show (if ρ 43 0 0 ≤ nI k then _ else _) = _
        rw [r43, if_neg (nI_ge hk (by omega))]
        simp only [vG_at hk8 (show 8 < 2 ^ 31 by omega), nI_1, h46]
      rw [eD, eM, hsum]
      by_cases c : ρ 7 0 k = 2
      · rw [if_pos c, if_pos c, (m.2.2.2.2.2.2.1.2.2.1 k hk c).2.2.1]
        by_cases c2 : ρ 13 0 k = nI C
        · rw [if_pos c2, if_pos c2]
          obtain ⟨σ1, ρ1, q1, f1, f2, m1, f3, f4, f5, f6, f7, f8, f9, f10⟩ := s_go m (k2.nw (by omega)) hk c (-11)
          rw [vB1_at f1, vB1_at f2]
          have z1 : zM (b + 1) σ1 ρ1 T P q1 := ⟨m1, k2.s (by omega) f7 (f4.at 52 (by decide) 0 0), fun u hu s => by
            rw [f5] at hu
            exact k3 u (List.mem_filter.mp hu).1 ((sat_.ag f4 (by decide)).mp s), k4.ag f4 (by decide) (f6 33 (by omega)), k5.ag f4 (by decide), k6.ag f4 (by decide)⟩
          have t1 : tk_ σ ρ σ1 ρ1 q q1 := ⟨f3.mo (by decide), f4.mo (by decide), fun r hr => f6 r (by omega), fun u => by
            by_cases cu : u = k
            · subst cu; exact Or.inr ⟨c, f9⟩
            · exact Or.inl (f8 u cu)⟩
          obtain ⟨σ', ρ', q', v1, v2, v3, v4⟩ := ih (k + 1) (b + 1) σ1 ρ1 q1 (by omega) (by omega) z1 (by rw [f4.at 46 (by decide)]; exact h46) (by omega)
          exact ⟨σ', ρ', q', v1, v2, v3, t1.tr v4⟩
        · rw [if_neg c2, if_neg c2]
          exact ih (k + 1) (b + 1) σ ρ q (by omega) (by omega) (z'.mo (by omega)) h46 (by omega)
      · rw [if_neg c, if_neg c]
        exact ih (k + 1) (b + 1) σ ρ q (by omega) (by omega) (z'.mo (by omega)) h46 (by omega)
    · have hke : k = T := by omega
      subst hke
      refine ⟨σ, ρ, q, ?_, ?_, z.mo (by omega), tk_.rf⟩
      · show (if σ 1 0 0 ≤ nI k then _ else _) = _
        rw [s1, if_pos (le_rf _)]
      · show (if ρ 43 0 0 ≤ nI k then _ else _) = (if ρ 43 0 0 ≤ nI k then _ else _)
        rw [r43, if_pos (le_rf _), if_pos (le_rf _)]
/-- t, which runs, gets behind the others of its row -/
theorem s_back2 {σ ρ : ed_S} {T P t p : Nat} {q : Nat → List Nat} (m : gM σ ρ T P q) (hw : nw_ ρ) (ht : t < T) (hr : ρ 44 0 0 = nI t) (hp : p < 8) (hpr : ρ 6 0 t = nI p) : ∃ σ' ρ', F_Sched_makeReady (nI t) σ = some σ' ∧ F_Mod_ready (nI t) ρ = some ρ' ∧ gN σ' ρ' T P (va_up q (8 + p) (q (8 + p) ++ [t])) ∧ ag_ σ σ' [10, 18, 39] ∧ ag_ ρ ρ' [7, 16, 51] ∧ (∀ u, u ≠ t → ρ' 7 0 u = ρ 7 0 u) ∧ ρ' 7 0 t = 1 ∧ ρ' 51 0 0 = ρ 51 0 0 + 1 ∧ (∀ u, u < T → ¬ ρ' 7 0 u = 0) := by
  have hT8 := m.2.1.2.1
  have ht8 : t < 8 := by omega
  obtain ⟨nQ, nA, nT, nU, nR, nC, nW, nD, nX, nV, nI', nP, nH, nO⟩ := m
  have hrun : ∀ u, u < T → (ρ 7 0 u = 0 ↔ u = t) := by
    rcases nR with ⟨z, _⟩ | ⟨t', ht', z, z2⟩
    · rw [hr] at z; exact absurd z (nI_m1 (by omega))
    · rw [hr] at z
      have := (nI_eq (by omega) (by omega)).mp z
      subst this
      exact z2
  have h0 : ρ 7 0 t = 0 := (hrun t ht).mpr rfl
  have hn1 : ¬ (t < T ∧ ρ 7 0 t = 1) := fun z => by rw [h0] at z; exact absurd z.2 (by decide)
  have hcap := rd_cap nD hT8 ht8 hn1 hp
  obtain ⟨σ1, hσ1⟩ : ∃ z, z = ed_st σ 10 t 0 1 := ⟨_, rfl⟩
  have q1 : gQ σ1 q := fun r hr => by rw [hσ1]; exact (nQ r hr).st (by decide) (by decide)
  obtain ⟨σ', e2, f2, g2⟩ := row_addLast (x := t) (q1 (8 + p) (by omega)) hcap
  obtain ⟨ρ', hρ'⟩ : ∃ z, z = ed_st (ed_st (ed_st ρ 7 0 t 1) 51 0 0 (ρ 51 0 0 + 1)) 16 0 t (ρ 51 0 0 + 1) := ⟨_, rfl⟩
  have a1 : ag_ σ σ1 [10, 18, 39] := by rw [hσ1]; exact ag_.rf.st (by decide)
  have a : ag_ σ σ' [10, 18, 39] := a1.fr f2 (by decide) (by decide)
  have b : ag_ ρ ρ' [7, 16, 51] := by rw [hρ']; exact ((ag_.rf.st (by decide)).st (by decide)).st (by decide)
  have r7 : ∀ u, ρ' 7 0 u = if u = t then 1 else ρ 7 0 u := fun u => by rw [hρ']; simp [ed_st]
  have r16 : ∀ u, ρ' 16 0 u = if u = t then ρ 51 0 0 + 1 else ρ 16 0 u := fun u => by rw [hρ']; simp [ed_st]
  have r51 : ρ' 51 0 0 = ρ 51 0 0 + 1 := by rw [hρ']; simp [ed_st]
  have s10 : ∀ u, σ' 10 u 0 = if u = t then 1 else σ 10 u 0 := fun u => by
    rw [f2 10 u 0 (by omega), hσ1]
    simp [ed_st]
  have i51 := add1 hw.2.2.2
  have hle51 : ρ 51 0 0 ≤ ρ' 51 0 0 := by rw [r51, Int32.le_iff_toInt_le, i51]; omega
  have r72 : ∀ u, ρ' 7 0 u = 2 ↔ ρ 7 0 u = 2 := fun u => by
    rw [r7]
    by_cases c : u = t
    · rw [if_pos c, c, h0]; exact ⟨fun z => absurd z (by decide), fun z => absurd z (by decide)⟩
    · rw [if_neg c]
  obtain ⟨q', hq'⟩ : ∃ w, w = va_up q (8 + p) (q (8 + p) ++ [t]) := ⟨_, rfl⟩
  have qn : ∀ r, r ≠ 8 + p → q' r = q r := fun r hr => by rw [hq', up_n hr]
  have qs : q' (8 + p) = q (8 + p) ++ [t] := by rw [hq', up_s]
  have hhc : ∀ o, hc_ ρ' o = hc_ ρ o := fun o => hc_.ag b (by decide) o
  have hpc : ∀ o, pc_ ρ' T (q' 33).length o = pc_ ρ T (q 33).length o := fun o => by rw [qn 33 (by omega)]; exact pc_.ag b (by decide) (fun u _ => r72 u) o
  refine ⟨σ', ρ', ?_, ?_, ?_, a, b, fun u hu => by rw [r7, if_neg hu], by rw [r7, if_pos rfl], r51, fun u hu => ?_⟩
  · unfold F_Sched_makeReady
    simp only [vG_at ht8 (show 8 < 2 ^ 31 by omega), vL]
    rw [ed_st_n (show ¬ (9 = 10 ∧ t = t ∧ 0 = 0) by omega), (nT t ht).2.1, hpr, vG_at hp (by omega), ← hσ1, vB1_at e2]
  · unfold F_Mod_ready
    simp only [vG_at ht8 (show 8 < 2 ^ 31 by omega), vL]
    rw [ed_st_n (show ¬ (51 = 7 ∧ 0 = 0 ∧ 0 = t) by omega), hρ']
  · rw [← hq']
    refine ⟨by rw [hq']; exact q1.up f2 g2, nA.ag a b (by decide) (by decide), ?_, ?_, ?_, ?_, ?_, nX.up a b (by decide) (by decide) hle51, (nV.ag b (by decide)).q (fun o _ => qn _ (by omega)), (nI'.ag b (by decide)).q (qn 33 (by omega)), nP.ag a b (by decide) (by decide), nH.ag a (by decide) hhc hpc, nO.ag a b (by decide) (by decide) hhc hpc⟩
    · intro u hu
      obtain ⟨b1, b2, b3, b4⟩ := nT u hu
      rw [a.at 8 (by decide), a.at 9 (by decide), a.at 11 (by decide), a.at 12 (by decide), a.at 13 (by decide), a.at 14 (by decide), b.at 5 (by decide), b.at 6 (by decide), b.at 8 (by decide), b.at 10 (by decide), b.at 11 (by decide), b.at 12 (by decide), s10, r7, b3]
      exact ⟨b1, b2, rfl, b4⟩
    · intro u hu hu8
      rw [qn u (by omega)]
      exact (nU.ag a b (by decide) (by decide)) u hu hu8
    · intro u hu
      rw [qn u (by omega)]
      exact (nC.ag b (by decide)) u hu
    · unfold gW pl_ at *
      simp only [qn 32 (show 32 ≠ 8 + p by omega), r72, a.at 15 (by decide), a.at 16 (by decide), a.at 17 (by decide), a.at 40 (by decide), b.at 13 (by decide), b.at 14 (by decide), b.at 15 (by decide), b.at 17 (by decide), b.at 22 (by decide)]
      obtain ⟨w1, w2, w3, w4⟩ := nW
      refine ⟨w1, w2, fun u hu z => ?_, w4⟩
      obtain ⟨v1, v2, v3⟩ := w3 u hu z
      exact ⟨v1, le_tr v2 hle51, v3⟩
    · refine nD.add (Nat.le_refl _) ht (fun u hu _ => hu) hn1 hp (by rw [b.at 6 (by decide)]; exact hpr) (fun u _ => b.at 6 (by decide) 0 u) (fun u hu => by rw [r7, if_neg hu]) (by rw [r7, if_pos rfl]) (by rw [r16, if_pos rfl]) (fun u hu => by rw [r16, if_neg hu]) r51 (b.at 52 (by decide) 0 0) hw qs (fun x hx hxp => qn _ (by omega))
  · rw [r7]
    by_cases c : u = t
    · rw [if_pos c]; decide
    · rw [if_neg c]; exact fun z => c ((hrun u hu).mp z)
theorem ti_.ag7 {ρ ρ' : ed_S} {L' : List Nat} {T : Nat} {q q' : Nat → List Nat} (b : ag_ ρ ρ' L') (h2 : ∀ k ∈ [3, 17, 19, 23, 31, 34, 36, 40], k ∉ L') (h7 : ∀ t, t < T → (ρ' 7 0 t = 2 ↔ ρ 7 0 t = 2)) (hq : q' 33 = q 33) (h : ti_ ρ T q) : ti_ ρ' T q' := fun o ho => by
  have hhc : ∀ o, hc_ ρ' o = hc_ ρ o := fun o => hc_.ag b (h2 3 (by decide)) o
  have hpc : ∀ o, pc_ ρ' T (q' 33).length o = pc_ ρ T (q 33).length o := fun o => by rw [hq]; exact pc_.ag b (fun k hk => h2 k (by revert hk; simp; omega)) h7 o
  have hth : th_ ρ' T q' o ↔ th_ ρ T q o := by unfold th_; rw [hhc, hpc]
  rw [hth, hhc, b.at 19 (h2 19 (by decide)), b.at 23 (h2 23 (by decide))]
  exact h o ho
