/-! ===== the pure part: exit ===== -/
/-- t, which runs, ends -/
theorem s_die {σ ρ : ed_S} {T P t : Nat} {q : Nat → List Nat} (m : gM σ ρ T P q) (ht : t < T) (hr : ρ 44 0 0 = nI t) : gM (ed_st (ed_st σ 5 0 0 (-1)) 10 t 0 3) (ed_st (ed_st ρ 7 0 t 3) 44 0 0 (-1)) T P q ∧ (∀ u, ed_st (ed_st ρ 7 0 t 3) 44 0 0 (-1) 7 0 u = 2 ↔ ρ 7 0 u = 2) := by
  have hT8 := m.2.1.2.1
  obtain ⟨nQ, nA, nT, nU, nR, nC, nW, nD, nX, nV, nI', nP, nH, nO⟩ := m
  have hrun : ∀ u, u < T → (ρ 7 0 u = 0 ↔ u = t) := by
    rcases nR with ⟨z, _⟩ | ⟨t', ht', z, z2⟩
    · rw [hr] at z; exact absurd z (nI_m1 (by omega))
    · rw [hr] at z
      have := (nI_eq (by omega) (by omega)).mp z
      subst this
      exact z2
  have h0 : ρ 7 0 t = 0 := (hrun t ht).mpr rfl
  obtain ⟨σ', hσ'⟩ : ∃ z, z = ed_st (ed_st σ 5 0 0 (-1)) 10 t 0 3 := ⟨_, rfl⟩
  obtain ⟨ρ', hρ'⟩ : ∃ z, z = ed_st (ed_st ρ 7 0 t 3) 44 0 0 (-1) := ⟨_, rfl⟩
  rw [← hσ', ← hρ']
  have a : ag_ σ σ' [5, 10] := by rw [hσ']; exact (ag_.rf.st (by decide)).st (by decide)
  have b : ag_ ρ ρ' [7, 44] := by rw [hρ']; exact (ag_.rf.st (by decide)).st (by decide)
  have r7 : ∀ u, ρ' 7 0 u = if u = t then 3 else ρ 7 0 u := fun u => by rw [hρ']; simp [ed_st]
  have r44 : ρ' 44 0 0 = -1 := by rw [hρ']; simp [ed_st]
  have s10 : ∀ u, σ' 10 u 0 = if u = t then 3 else σ 10 u 0 := fun u => by rw [hσ']; simp [ed_st]
  have s5 : σ' 5 0 0 = -1 := by rw [hσ']; simp [ed_st]
  have r72 : ∀ u, ρ' 7 0 u = 2 ↔ ρ 7 0 u = 2 := fun u => by
    rw [r7]
    by_cases c : u = t
    · rw [if_pos c, c, h0]; exact ⟨fun z => absurd z (by decide), fun z => absurd z (by decide)⟩
    · rw [if_neg c]
  have r71 : ∀ u, ρ' 7 0 u = 1 ↔ ρ 7 0 u = 1 := fun u => by
    rw [r7]
    by_cases c : u = t
    · rw [if_pos c, c, h0]; exact ⟨fun z => absurd z (by decide), fun z => absurd z (by decide)⟩
    · rw [if_neg c]
  have hhc : ∀ o, hc_ ρ' o = hc_ ρ o := fun o => hc_.ag b (by decide) o
  have hpc : ∀ o, pc_ ρ' T (q 33).length o = pc_ ρ T (q 33).length o := fun o => pc_.ag b (by decide) (fun u _ => r72 u) o
  refine ⟨⟨nQ.ag a (by decide), ?_, ?_, nU.ag a b (by decide) (by decide), ?_, nC.ag b (by decide), ?_, ?_, nX.ag a b (by decide) (by decide), nV.ag b (by decide), nI'.ag b (by decide), nP.ag a b (by decide) (by decide), nH.ag a (by decide) hhc hpc, nO.ag a b (by decide) (by decide) hhc hpc⟩, r72⟩
  · obtain ⟨a1, a2, a3', a4, a5, a6, a7, a8, a9, a10, a11, a12, a13⟩ := nA
    refine ⟨a1, a2, ?_, ?_, ?_, ?_, ?_, ?_, ?_, ?_, ?_, ?_, ?_⟩
    · rw [a.at 0 (by decide)]; exact a3'
    · rw [b.at 42 (by decide)]; exact a4
    · rw [a.at 1 (by decide)]; exact a5
    · rw [b.at 43 (by decide)]; exact a6
    · rw [a.at 2 (by decide), b.at 50 (by decide)]; exact a7
    · rw [a.at 3 (by decide), b.at 46 (by decide)]; exact a8
    · rw [a.at 4 (by decide), b.at 47 (by decide)]; exact a9
    · rw [b.at 47 (by decide)]; exact a10
    · rw [s5, r44]
    · rw [a.at 6 (by decide), b.at 45 (by decide)]; exact a12
    · rw [a.at 7 (by decide), b.at 49 (by decide)]; exact a13
  · intro u hu
    obtain ⟨b1, b2, b3, b4⟩ := nT u hu
    rw [a.at 8 (by decide), a.at 9 (by decide), a.at 11 (by decide), a.at 12 (by decide), a.at 13 (by decide), a.at 14 (by decide), b.at 5 (by decide), b.at 6 (by decide), b.at 8 (by decide), b.at 10 (by decide), b.at 11 (by decide), b.at 12 (by decide), s10, r7, b3]
    exact ⟨b1, b2, rfl, b4⟩
  · refine Or.inl ⟨r44, fun u hu => ?_⟩
    rw [r7]
    by_cases c : u = t
    · rw [if_pos c]; decide
    · rw [if_neg c]; exact fun z => c ((hrun u hu).mp z)
  · unfold gW pl_ at *
    simp only [r72, a.at 15 (by decide), a.at 16 (by decide), a.at 17 (by decide), a.at 40 (by decide), b.at 13 (by decide), b.at 14 (by decide), b.at 15 (by decide), b.at 17 (by decide), b.at 22 (by decide), b.at 51 (by decide)]
    exact nW
  · unfold gD at *
    simp only [r71, b.at 6 (by decide), b.at 16 (by decide), b.at 51 (by decide), b.at 52 (by decide)]
    exact nD
/-- the mutants of t are abandoned -/
theorem s_abandon {T P t : Nat} {x2 : Int32} (ht8 : t < 8) : ∀ (n k b : Nat) (σ ρ : ed_S) (q : Nat → List Nat), 16 < n + k → k ≤ 16 → zM b σ ρ T P q → b + 8 * (16 - k) + 8 < 1000000 → ∃ σ' ρ' q', F_Desk_abandonMutantsOf_2 n (nI t) (nI k) σ = some σ' ∧ F_Mod_exit_54 n (nI t) x2 (nI k) (kp_ t ρ) = F_Mod_exit_125 ed_fu (nI t) x2 0 (kp_ t ρ') ∧ zM (b + 8 * (16 - k)) σ' ρ' T P q' ∧ fi_ σ ρ σ' ρ' q q' := by
  intro n
  induction n with
  | zero => intro k b σ ρ q h1 h2; omega
  | succ n ih =>
    intro k b σ ρ q h1 h2 z hb
    rcases Nat.lt_or_ge k 16 with hk | hk
    · have z' := z
      obtain ⟨m, k2, k3, k4, k5, k6⟩ := z
      have hsum : b + 8 * (16 - k) = b + 8 + 8 * (16 - (k + 1)) := by omega
      have eD : F_Desk_abandonMutantsOf_2 (n + 1) (nI t) (nI k) σ = (vB2 (F_Obj_isThere k σ) fun r8 σ6 => (if r8 = 0 then (F_Desk_abandonMutantsOf_2 n (nI t) (nI (k + 1)) σ6) else (if (σ6 22 k 0) = 2 then (if (σ6 27 k 0) = nI t then (vL (ed_st σ6 27 k 0 (-1)) fun σ12 => (vL (ed_st σ12 26 k 0 0) fun σ14 => (vL (ed_st σ14 28 k 0 1) fun σ16 => (vB1 (F_Desk_release σ16) fun σ18 => (F_Desk_abandonMutantsOf_2 n (nI t) (nI (k + 1)) σ18))))) else (F_Desk_abandonMutantsOf_2 n (nI t) (nI (k + 1)) σ6)) else (F_Desk_abandonMutantsOf_2 n (nI t) (nI (k + 1)) σ6)))) := by
        show (if (16 : Int32) ≤ nI k then _ else _) = _
        rw [if_neg (by rw [show (16 : Int32) = nI 16 from rfl]; exact nI_ge hk (by omega)), vG_at hk (by omega), nI_1]
      have eM : F_Mod_exit_54 (n + 1) (nI t) x2 (nI k) (kp_ t ρ) = (if ρ 19 0 k = 0 then (F_Mod_exit_54 n (nI t) x2 (nI (k + 1)) (kp_ t ρ)) else (if ρ 22 0 k = 2 then (if ρ 25 0 k = nI t then (vB1 (k1_ t (F_Mod_release (ed_st (ed_st (ed_st ρ 25 0 k (-1)) 24 0 k 0) 21 0 k 1))) fun σ35 => (F_Mod_exit_54 n (nI t) x2 (nI (k + 1)) σ35)) else (F_Mod_exit_54 n (nI t) x2 (nI (k + 1)) (kp_ t ρ))) else (F_Mod_exit_54 n (nI t) x2 (nI (k + 1)) (kp_ t ρ)))) := by
        show (if (16 : Int32) ≤ nI k then _ else _) = _
        rw [if_neg (by rw [show (16 : Int32) = nI 16 from rfl]; exact nI_ge hk (by omega))]
        simp only [vG_at hk (show 16 < 2 ^ 31 by omega), nI_1, kp_r, kp_w, ne_eq, Nat.reduceEqDiff, not_false_eq_true, vL, k_release]
      have skip : F_Desk_abandonMutantsOf_2 (n + 1) (nI t) (nI k) σ = F_Desk_abandonMutantsOf_2 n (nI t) (nI (k + 1)) σ → F_Mod_exit_54 (n + 1) (nI t) x2 (nI k) (kp_ t ρ) = F_Mod_exit_54 n (nI t) x2 (nI (k + 1)) (kp_ t ρ) → ∃ σ' ρ' q', F_Desk_abandonMutantsOf_2 (n + 1) (nI t) (nI k) σ = some σ' ∧ F_Mod_exit_54 (n + 1) (nI t) x2 (nI k) (kp_ t ρ) = F_Mod_exit_125 ed_fu (nI t) x2 0 (kp_ t ρ') ∧ zM (b + 8 * (16 - k)) σ' ρ' T P q' ∧ fi_ σ ρ σ' ρ' q q' := fun e1 e2 => by
        rw [e1, e2, hsum]
        exact ih (k + 1) (b + 8) σ ρ q (by omega) (by omega) (z'.mo (by omega)) (by omega)
      have bb : ag_ ρ (ed_st (ed_st (ed_st ρ 25 0 k (-1)) 24 0 k 0) 21 0 k 1) [21, 24, 25] := ((ag_.rf.st (by decide)).st (by decide)).st (by decide)
      have bn : ∀ x j, j ≠ k → ed_st (ed_st (ed_st ρ 25 0 k (-1)) 24 0 k 0) 21 0 k 1 x 0 j = ρ x 0 j := fun x j hj => by rw [ed_st_n (by omega), ed_st_n (by omega), ed_st_n (by omega)]
      rcases d_there m hk with ⟨c1, c2⟩ | ⟨c1, c2⟩
      · rw [vB2_at c2, if_neg (show ¬ (1 : Int32) = 0 by decide)] at eD
        have hob := (m.2.2.2.2.2.2.2.2.2.2.2.2.2.2 k hk c1).1
        have hob' := hob
        obtain ⟨o1, o2, o3, o4, o5, o6, o7, o8, o9, o10, o11, o12, o13, o14, o15⟩ := hob
        rw [o2, o4] at eD
        rw [if_neg (show ¬ ρ 19 0 k = 0 by rw [o1]; decide)] at eM
        by_cases h22 : ρ 22 0 k = 2
        · rw [if_pos h22] at eD eM
          by_cases h25 : ρ 25 0 k = nI t
          · rw [if_pos h25] at eD eM
            simp only [vL] at eD
            have aa : ag_ σ (ed_st (ed_st (ed_st σ 27 k 0 (-1)) 26 k 0 0) 28 k 0 1) [26, 27, 28] := ((ag_.rf.st (by decide)).st (by decide)).st (by decide)
            have m2 : gM (ed_st (ed_st (ed_st σ 27 k 0 (-1)) 26 k 0 0) 28 k 0 1) (ed_st (ed_st (ed_st ρ 25 0 k (-1)) 24 0 k 0) 21 0 k 1) T P q := m.ob (aa.mo (by decide)) (bb.mo (by decide)) (fun u hu _ hou => by
              by_cases cu : u = k
              · subst cu
                refine hob'.put (aa.mo (by decide)) (bb.mo (by decide)) ?_ ?_ ?_ ?_ ?_ ?_ ?_ ?_ ?_
                · simp [ed_st]
                · rw [show ed_st (ed_st (ed_st ρ 25 0 u (-1)) 24 0 u 0) 21 0 u 1 25 0 u = -1 by simp [ed_st]]; exact Or.inl rfl
                · simp [ed_st]
                · exact Or.inr (by simp [ed_st])
                · exact fun w => absurd h22 w
                · rw [show ed_st (ed_st (ed_st ρ 25 0 u (-1)) 24 0 u 0) 21 0 u 1 20 0 u = ρ 20 0 u by simp [ed_st]]; exact o9
                · intro _
                  exact ⟨by simp [ed_st], 0, by omega, by simp [ed_st]; rfl⟩
                · intro w
                  rw [h22] at w
                  rcases w with w | w | w <;> exact absurd w (by decide)
                · intro _
                  simp [ed_st]
              · exact hou.ne cu (aa.mo (by decide)) (bb.mo (by decide)) (fun x i' j' hi' => by rw [ed_st_n (by omega), ed_st_n (by omega), ed_st_n (by omega)]) (fun x j' hj' => bn x j' hj'))
            obtain ⟨σ2, ρ2, q2, w1, w2, w3, w4⟩ := zM.rel m2 (k2.ag bb (by decide)) (k4.ag bb (by decide) rfl) (k5.ag bb (by decide)) (k6.ag bb (by decide)) (show b + 8 < 1000000 by omega)
            rw [vB1_at w1] at eD
            rw [w2, k1_some] at eM
            obtain ⟨σ', ρ', q', v1, v2, v3, v4⟩ := ih (k + 1) (b + 8) σ2 ρ2 q2 (by omega) (by omega) w3 (by omega)
            have f1 : fi_ σ ρ (ed_st (ed_st (ed_st σ 27 k 0 (-1)) 26 k 0 0) 28 k 0 1) (ed_st (ed_st (ed_st ρ 25 0 k (-1)) 24 0 k 0) 21 0 k 1) q q := ⟨aa.mo (by decide), bb.mo (by decide), fun _ _ => rfl, fun u => Or.inl (bb.at 7 (by decide) 0 u)⟩
            exact ⟨σ', ρ', q', by rw [eD]; exact v1, by rw [eM]; exact v2, by rw [hsum]; exact v3, (f1.tr (fi_.re w4)).tr v4⟩
          · rw [if_neg h25] at eD eM
            exact skip eD eM
        · rw [if_neg h22] at eD eM
          exact skip eD eM
      · rw [vB2_at c2, if_pos rfl] at eD
        by_cases h19 : ρ 19 0 k = 0
        · rw [if_pos h19] at eM
          exact skip eD eM
        · rw [if_neg h19] at eM
          by_cases h22 : ρ 22 0 k = 2
          · rw [if_pos h22] at eM
            by_cases h25 : ρ 25 0 k = nI t
            · rw [if_pos h25] at eM
              have m2 : gM σ (ed_st (ed_st (ed_st ρ 25 0 k (-1)) 24 0 k 0) 21 0 k 1) T P q := m.ob (ag_.rf (L := [26, 27, 28, 29, 30, 43, 44, 45])) (bb.mo (by decide)) (fun u hu hth hou => by
                have cu : u ≠ k := fun e => c1 (e ▸ hth)
                exact hou.ne cu (ag_.rf (L := [26, 27, 28])) (bb.mo (by decide)) (fun _ _ _ _ => rfl) (fun x j' hj' => bn x j' hj'))
              have hu2 : qu_ (ed_st (ed_st (ed_st ρ 25 0 k (-1)) 24 0 k 0) 21 0 k 1) q := fun u hu s => k3 u hu (sat_mono (bb.at 14 (by decide) 0 u) (fun j => bb.at 17 (by decide) 0 j) (fun j o hj ho hp w => by
                have hw := (m.2.2.2.2.2.2.1.2.1 u).mp hu
                have co : o ≠ k := fun e => by
                  subst e
                  exact c1 (th_pl m hw.1 hw.2 hj hp)
                unfold sg_ at w ⊢
                simp only [bn _ o co] at w
                exact w) s)
              rw [m_relnop m2 hu2, k1_some] at eM
              obtain ⟨σ', ρ', q', v1, v2, v3, v4⟩ := ih (k + 1) (b + 8) σ _ q (by omega) (by omega) (show zM (b + 8) σ (ed_st (ed_st (ed_st ρ 25 0 k (-1)) 24 0 k 0) 21 0 k 1) T P q from ⟨m2, (k2.ag bb (by decide)).mo (by omega), hu2, k4.ag bb (by decide) rfl, k5.ag bb (by decide), k6.ag bb (by decide)⟩) (by omega)
              have f1 : fi_ σ ρ σ (ed_st (ed_st (ed_st ρ 25 0 k (-1)) 24 0 k 0) 21 0 k 1) q q := ⟨ag_.rf, bb.mo (by decide), fun _ _ => rfl, fun u => Or.inl (bb.at 7 (by decide) 0 u)⟩
              exact ⟨σ', ρ', q', by rw [eD]; exact v1, by rw [eM]; exact v2, by rw [hsum]; exact v3, f1.tr v4⟩
            · rw [if_neg h25] at eM
              exact skip eD eM
          · rw [if_neg h22] at eM
            exact skip eD eM
    · have hke : k = 16 := by omega
      subst hke
      exact ⟨σ, ρ, q, rfl, rfl, z.mo (by omega), fi_.rf⟩
/-- the transfers of t are withdrawn -/
theorem s_withdraws {T P t : Nat} {x2 : Int32} : ∀ (n k b : Nat) (σ ρ : ed_S) (q : Nat → List Nat), 8 < n + k → k ≤ 8 → zM b σ ρ T P q → b + 8 * (8 - k) + 8 < 1000000 → ∃ σ' ρ' q', F_Desk_exit_58 n (nI t) (nI k) σ = F_Desk_exit_58 1 (nI t) (nI 8) σ' ∧ F_Mod_exit_125 n (nI t) x2 (nI k) (kp_ t ρ) = F_Mod_exit_125 1 (nI t) x2 (nI 8) (kp_ t ρ') ∧ zM (b + 8 * (8 - k)) σ' ρ' T P q' ∧ fi_ σ ρ σ' ρ' q q' := by
  intro n
  induction n with
  | zero => intro k b σ ρ q h1 h2; omega
  | succ n ih =>
    intro k b σ ρ q h1 h2 z hb
    rcases Nat.lt_or_ge k 8 with hk | hk
    · obtain ⟨x1, x2', x3, x4⟩ := z.1.2.2.2.2.2.2.2.2.1 k hk
      have hsum : b + 8 * (8 - k) = b + 8 + 8 * (8 - (k + 1)) := by omega
      have eD : F_Desk_exit_58 (n + 1) (nI t) (nI k) σ = (if ρ 31 0 k = 0 then (if ρ 33 0 k = nI t then (vB2 (F_Desk_withdraw (nI k) σ) fun r39 σ37 => (F_Desk_exit_58 n (nI t) (nI (k + 1)) σ37)) else (F_Desk_exit_58 n (nI t) (nI (k + 1)) σ)) else (F_Desk_exit_58 n (nI t) (nI (k + 1)) σ)) := by
        show (if (8 : Int32) ≤ nI k then _ else _) = _
        rw [if_neg (by rw [show (8 : Int32) = nI 8 from rfl]; exact nI_ge hk (by omega))]
        unfold F_Desk_isPending
        rw [vB2_at (d_is _ _ _ _), iw_in (n := 8) (by decide) (by omega) hk, if_neg (show ¬ (1 : Int32) = 0 by decide), vG_at hk (by omega), x1, nI_1]
        by_cases c : ρ 31 0 k = 0
        · rw [if_pos c, if_pos c]
          simp only [vB2]
          rw [if_neg (show ¬ (1 : Int32) = 0 by decide), vG_at hk (by omega), x3]
        · rw [if_neg c, if_neg c]
          simp only [vB2]
          rw [if_pos trivial]
      have eM : F_Mod_exit_125 (n + 1) (nI t) x2 (nI k) (kp_ t ρ) = (if ρ 31 0 k = 0 then (if ρ 33 0 k = nI t then (vB2 (k2_ t (F_Mod_drop (nI k) ρ)) fun r24 σ22 => (F_Mod_exit_125 n (nI t) x2 (nI (k + 1)) σ22)) else (F_Mod_exit_125 n (nI t) x2 (nI (k + 1)) (kp_ t ρ))) else (F_Mod_exit_125 n (nI t) x2 (nI (k + 1)) (kp_ t ρ))) := by
        show (if (8 : Int32) ≤ nI k then _ else _) = _
        rw [if_neg (by rw [show (8 : Int32) = nI 8 from rfl]; exact nI_ge hk (by omega))]
        simp only [vG_at hk (show 8 < 2 ^ 31 by omega), nI_1, kp_r, ne_eq, Nat.reduceEqDiff, not_false_eq_true, k_drop]
      rw [eD, eM, hsum]
      by_cases c : ρ 31 0 k = 0
      · rw [if_pos c, if_pos c]
        by_cases c2 : ρ 33 0 k = nI t
        · rw [if_pos c2, if_pos c2]
          obtain ⟨σ1, ρ1, q1, r, e1, e2, z1, f1⟩ := s_drop z hk c (by omega)
          rw [vB2_at e1, e2, k2_some, vB2_at rfl]
          obtain ⟨σ', ρ', q', v1, v2, v3, v4⟩ := ih (k + 1) (b + 8) σ1 ρ1 q1 (by omega) (by omega) z1 (by omega)
          exact ⟨σ', ρ', q', v1, v2, v3, f1.tr v4⟩
        · rw [if_neg c2, if_neg c2]
          exact ih (k + 1) (b + 8) σ ρ q (by omega) (by omega) (z.mo (by omega)) (by omega)
      · rw [if_neg c, if_neg c]
        exact ih (k + 1) (b + 8) σ ρ q (by omega) (by omega) (z.mo (by omega)) (by omega)
    · have hke : k = 8 := by omega
      subst hke
      exact ⟨σ, ρ, q, rfl, rfl, z.mo (by omega), fi_.rf⟩
/-- all handles of a process are dropped -/
theorem s_drops {b T P p : Nat} {q : Nat → List Nat} {x1 : Int32} (hp : p < 4) : ∀ (n k : Nat) (σ ρ : ed_S), 8 < n + k → k ≤ 8 → zM b σ ρ T P q → ρ 1 0 p = 0 → ∃ σ' ρ', F_Desk_dropAllHandles_2 n p (nI k) σ = some σ' ∧ F_Mod_exit_177 n x1 (nI p) (nI (8 * p + k)) ρ = F_Mod_end x1 ρ' ∧ zM b σ' ρ' T P q ∧ ag_ ρ ρ' [3] := by
  intro n
  induction n with
  | zero => intro k σ ρ h1 h2; omega
  | succ n ih =>
    intro k σ ρ h1 h2 z h0
    have e8 : 8 * nI p + 8 = nI (8 * p + 8) := ix8 p 8
    rcases Nat.lt_or_ge k 8 with hk | hk
    · obtain ⟨g1, g2, g3⟩ := (z.1.2.2.2.2.2.2.2.2.2.2.2.1 p hp).2.2.2 k hk
      have eo : F_Proc_objectOf p (nI k) σ = some (ρ 3 0 (8 * p + k), σ) := by
        unfold F_Proc_objectOf
        rw [vB2_at (d_is _ _ _ _), iw_in (n := 8) (by decide) (by omega) hk, if_neg (show ¬ (1 : Int32) = 0 by decide), vG_at hk (by omega), g1]
      have eD : F_Desk_dropAllHandles_2 (n + 1) p (nI k) σ = (if ρ 3 0 (8 * p + k) = (-1) then (F_Desk_dropAllHandles_2 n p (nI (k + 1)) σ) else (vB1 (F_Desk_dropHandle p (nI k) σ) fun σ6 => (F_Desk_dropAllHandles_2 n p (nI (k + 1)) σ6))) := by
        show (if (8 : Int32) ≤ nI k then _ else _) = _
        rw [if_neg (by rw [show (8 : Int32) = nI 8 from rfl]; exact nI_ge hk (by omega)), vB2_at eo, nI_1]
      have eM : F_Mod_exit_177 (n + 1) x1 (nI p) (nI (8 * p + k)) ρ = F_Mod_exit_177 n x1 (nI p) (nI (8 * p + (k + 1))) (ed_st ρ 3 0 (8 * p + k) (-1)) := by
        show (if (8 * nI p + 8) ≤ nI (8 * p + k) then _ else _) = _
        rw [e8, if_neg (nI_ge (by omega) (by omega)), vG_at hp (by omega), if_pos h0, vG_at (by omega) (by omega), nI_1]
        rfl
      rw [eD, eM]
      rw [g1] at g3
      rcases g3 with w | ⟨o, ho, w⟩
      · have eid : ed_st ρ 3 0 (8 * p + k) (-1) = ρ := by
          have := ed_st_id ρ 3 0 (8 * p + k)
          rw [w] at this
          exact this
        rw [if_pos w, eid]
        exact ih (k + 1) σ ρ (by omega) (by omega) z h0
      · rw [if_neg (by rw [w]; exact nI_m1 (by omega))]
        obtain ⟨σ1, f1, m1, a1, b1, -⟩ := g_drop z.1 hp hk ho w
        rw [vB1_at f1]
        obtain ⟨-, k2, k3, k4, k5, k6⟩ := z
        obtain ⟨σ', ρ', v1, v2, v3, v4⟩ := ih (k + 1) σ1 _ (by omega) (by omega) (show zM b σ1 (ed_st ρ 3 0 (8 * p + k) (-1)) T P q from ⟨m1, k2.ag b1 (by decide), k3.ag b1 (by decide) (fun _ y => y), k4.ag b1 (by decide) rfl, k5.ag b1 (by decide), k6.ag b1 (by decide)⟩) (by rw [b1.at 1 (by decide)]; exact h0)
        exact ⟨σ', ρ', v1, v2, v3, b1.tr v4⟩
    · have hke : k = 8 := by omega
      subst hke
      refine ⟨σ, ρ, rfl, ?_, z, ag_.rf⟩
      show (if (8 * nI p + 8) ≤ nI (8 * p + 8) then _ else _) = _
      rw [e8, if_pos (le_rf _), vB2_eta]
/-- the calls of t are forgotten, its process has one thread less -/
theorem s_gone {b T P t p : Nat} {σ ρ : ed_S} {q : Nat → List Nat} (z : zM b σ ρ T P q) (ht : t < T) (hp : p < 4) : zM b (ed_st (ed_st σ 18 t 0 0) 21 p 0 (ρ 1 0 p - 1)) (ed_st (kp_ t ρ) 1 0 p (ρ 1 0 p - 1)) T P (va_up q t []) := by
  obtain ⟨m, k2, k3, k4, k5, k6⟩ := z
  have hT8 := m.2.1.2.1
  have a : ag_ σ (ed_st σ 18 t 0 0) [12, 13, 18, 39] := ag_.rf.st (by decide)
  have b' : ag_ ρ (kp_ t ρ) [9, 10, 11, 18] := ag_.rf.st (by decide)
  obtain ⟨b1, b2, b3, b4, b5, b6, b7, b8⟩ := m.2.2.1 t ht
  have m1 : gM (ed_st σ 18 t 0 0) (kp_ t ρ) T P (va_up q t []) := m.calls ht (fun r hr => by
    by_cases c : r = t
    · subst c
      rw [up_s]
      exact ⟨by rw [ed_st_s]; rfl, Nat.zero_le _, fun j v hj => by simp at hj⟩
    · rw [up_n c]
      exact (m.1 r hr).ag (fun j => ed_st_n (by omega)) (fun j => ed_st_n (by omega))) a b' (fun u hu => by
    exact ⟨ed_st_n (by omega), ed_st_n (by omega), ed_st_n (by omega), kp_r (by decide), kp_r (by decide)⟩) (fun d _ => kp_r (by decide)) (by rw [kp_r (by decide), ed_st_n (by omega)]; exact b5) (by rw [kp_r (by decide), ed_st_n (by omega)]; exact b6) (by show ed_st ρ 9 0 t 0 9 0 t = _; rw [ed_st_s]; rfl) (fun j v hj => by simp at hj)
  have bk : ag_ ρ (kp_ t ρ) [9] := ag_.rf.st (by decide)
  obtain ⟨v, hv⟩ : ∃ v, v = ρ 1 0 p - 1 := ⟨_, rfl⟩
  rw [← hv]
  have a2 : ag_ (ed_st σ 18 t 0 0) (ed_st (ed_st σ 18 t 0 0) 21 p 0 v) [21] := ag_.rf.st (by decide)
  have b2' : ag_ (kp_ t ρ) (ed_st (kp_ t ρ) 1 0 p v) [1] := ag_.rf.st (by decide)
  have bb : ag_ ρ (ed_st (kp_ t ρ) 1 0 p v) [1, 9] := (bk.mo (by decide)).tr (b2'.mo (by decide))
  have hhc : ∀ o, hc_ (ed_st (kp_ t ρ) 1 0 p v) o = hc_ (kp_ t ρ) o := fun o => hc_.ag b2' (by decide) o
  have hpc : ∀ o, pc_ (ed_st (kp_ t ρ) 1 0 p v) T (va_up q t [] 33).length o = pc_ (kp_ t ρ) T (va_up q t [] 33).length o := fun o => pc_.ag b2' (by decide) (fun u _ => by rw [b2'.at 7 (by decide)]) o
  refine ⟨?_, k2.ag bb (by decide), k3.ag bb (by decide) (fun u hu => by rw [up_n (by omega)] at hu; exact hu), k4.ag bb (by decide) (up_n (by omega)), k5.ag bb (by decide), k6.ag bb (by decide)⟩
  obtain ⟨nQ, nA, nT, nU, nR, nC, nW, nD, nX, nV, nI', nP, nH, nO⟩ := m1
  refine ⟨nQ.ag a2 (by decide), nA.ag a2 b2' (by decide) (by decide), nT.ag a2 b2' (by decide) (by decide), nU.ag a2 b2' (by decide) (by decide), nR.ag b2' (by decide), nC.ag b2' (by decide), nW.ag a2 b2' (by decide) (by decide), nD.ag b2' (by decide), nX.ag a2 b2' (by decide) (by decide), nV.ag b2' (by decide), nI'.ag b2' (by decide), ?_, nH.ag a2 (by decide) hhc hpc, nO.ag a2 b2' (by decide) (by decide) hhc hpc⟩
  intro u hu
  obtain ⟨c1, c2, c3, c4⟩ := nP u hu
  unfold hd_ at *
  simp only [a2.at 19 (by decide), a2.at 20 (by decide), a2.at 41 (by decide), a2.at 42 (by decide), b2'.at 0 (by decide), b2'.at 2 (by decide), b2'.at 3 (by decide), b2'.at 4 (by decide)]
  refine ⟨c1, c2, ?_, c4⟩
  by_cases cu : u = p
  · subst cu; rw [ed_st_s, ed_st_s]
  · rw [ed_st_n (show ¬ (21 = 21 ∧ u = p ∧ 0 = 0) by omega), ed_st_n (show ¬ (1 = 1 ∧ 0 = 0 ∧ u = p) by omega)]; exact c3
theorem c_exit (n : Nat) (σ ρ : ed_S) (hn : n < 512) (hS : zS n σ ρ) : jt_ (zS (n + 1)) (F_Desk_exit σ) (F_Mod_exit ρ) := by
  have hS' := hS.mo
  obtain ⟨T, P, q, ⟨m, hb, hqu, hJ, hK, hL⟩, hC, ti, hl⟩ := hS
  have hT8 := m.2.1.2.1
  unfold F_Desk_exit F_Mod_exit
  refine jt_run m hS' (fun t p hT ht hp hr hr5 hh hh8 h0 hpr H => ?_)
  rw [m.2.1.2.2.2.2.2.2.2.2.1]
  refine jt_if Iff.rfl (fun _ => jt_b rfl hS') (fun hlv => ?_)
  have hlv : ρ 47 0 0 = 0 := m.2.1.2.2.2.2.2.2.2.2.2.1.resolve_right hlv
  obtain ⟨y1, y2, y3⟩ := hl hlv
  rw [hr5, hr]
  simp only [vG_at ht (show 8 < 2 ^ 31 by omega), vL]
  rw [hh]
  obtain ⟨m1, r72⟩ := s_die m hT hr
  obtain ⟨ρ1, hρ1⟩ : ∃ w, w = ed_st (ed_st ρ 7 0 t 3) 44 0 0 (-1) := ⟨_, rfl⟩
  obtain ⟨σ1, hσ1⟩ : ∃ w, w = ed_st (ed_st σ 5 0 0 (-1)) 10 t 0 3 := ⟨_, rfl⟩
  rw [← hρ1, ← hσ1] at m1
  rw [← hρ1] at r72
  rw [← hσ1, ← hρ1]
  have b1 : ag_ ρ ρ1 [7, 44] := by rw [hρ1]; exact (ag_.rf.st (by decide)).st (by decide)
  have z1 : zM (1300 * n) σ1 ρ1 T P q := ⟨m1, hb.ag b1 (by decide), hqu.ag b1 (by decide) (fun _ w => w), hJ.ag b1 (by decide) rfl, hK.ag b1 (by decide), hL.ag b1 (by decide)⟩
  have na1 : na_ ρ1 T q := fun u hu w1 w2 => by
    rw [b1.at 14 (by decide)] at w2
    exact y3 u hu ((r72 u).mp w1) w2
  obtain ⟨σ2, ρ2, q2, e1, e2, z2, f2⟩ := s_abandon (x2 := nI p) ht ed_fu 0 (1300 * n) σ1 ρ1 q (by show _ < 64 + 0; omega) (by omega) z1 (by omega)
  have e1 : F_Desk_abandonMutantsOf (nI t) σ1 = some σ2 := e1
  have e2 : F_Mod_exit_54 ed_fu (nI t) (nI p) 0 (ed_st ρ1 9 0 t 0) = F_Mod_exit_125 ed_fu (nI t) (nI p) 0 (kp_ t ρ2) := e2
  rw [vB1_at e1, e2]
  obtain ⟨σ3, ρ3, q3, e3, e4, z3, f3⟩ := s_withdraws (t := t) (x2 := nI p) ed_fu 0 _ σ2 ρ2 q2 (by show _ < 64 + 0; omega) (by omega) z2 (by omega)
  have e3 : F_Desk_exit_58 ed_fu (nI t) 0 σ2 = F_Desk_exit_58 1 (nI t) (nI 8) σ3 := e3
  have e4 : F_Mod_exit_125 ed_fu (nI t) (nI p) 0 (kp_ t ρ2) = F_Mod_exit_125 1 (nI t) (nI p) (nI 8) (kp_ t ρ3) := e4
  rw [e3, e4]
  have f := f2.tr f3
  have z4 := s_gone (p := p) z3 hT hp
  have r5 : ρ3 5 0 t = nI p := by rw [f.2.1.at 5 (by decide), b1.at 5 (by decide)]; exact hh
  have s8 : σ3 8 t 0 = nI p := by rw [(z3.1.2.2.1 t hT).1]; exact r5
  have s21 : σ3 21 p 0 = ρ3 1 0 p := (z3.1.2.2.2.2.2.2.2.2.2.2.2.1 p hp).2.2.1
  have s20 : σ3 20 p 0 = ρ3 2 0 p := (z3.1.2.2.2.2.2.2.2.2.2.2.2.1 p hp).2.1
  obtain ⟨mm, hm1, hm2, hm3⟩ := z3.2.2.2.2.2 p hp
  have hm0 : 0 < mm := hm3 t hT r5
  have eD : F_Desk_exit_58 1 (nI t) (nI 8) σ3 = (if ρ3 1 0 p - 1 = 0 then (vB1 (F_Desk_dropAllHandles p (ed_st (ed_st σ3 18 t 0 0) 21 p 0 (ρ3 1 0 p - 1))) fun σ24 => (vB1 (F_Desk_lookWhoRuns σ24) fun σ26 => (some (nI t, σ26)))) else (vB1 (F_Desk_lookWhoRuns (ed_st (ed_st σ3 18 t 0 0) 21 p 0 (ρ3 1 0 p - 1))) fun σ22 => (some (nI t, σ22)))) := by
    show (if (8 : Int32) ≤ nI 8 then _ else _) = _
    rw [if_pos (by decide)]
    simp only [vG_at ht (show 8 < 2 ^ 31 by omega), vL]
    rw [ed_st_n (show ¬ (8 = 18 ∧ t = t ∧ 0 = 0) by omega), s8, vG_at hp (by omega), ed_st_n (show ¬ (21 = 18 ∧ p = t ∧ 0 = 0) by omega), s21]
    unfold F_Proc_hasEnded
    rw [ed_st_s, ed_st_n (show ¬ (20 = 21 ∧ p = p ∧ 0 = 0) by omega), ed_st_n (show ¬ (20 = 18 ∧ p = t ∧ 0 = 0) by omega), s20, hm2, if_neg (nI_nle hm0 (by omega))]
    by_cases c : ρ3 1 0 p - 1 = 0
    · rw [if_pos c, if_pos c]
      simp only [vB2]
      rw [if_neg (show ¬ (1 : Int32) = 0 by decide)]
    · rw [if_neg c, if_neg c]
      simp only [vB2]
      rw [if_pos trivial]
  have eM : F_Mod_exit_125 1 (nI t) (nI p) (nI 8) (kp_ t ρ3) = F_Mod_exit_177 ed_fu (nI t) (nI p) (nI (8 * p + 0)) (ed_st (kp_ t ρ3) 1 0 p (ρ3 1 0 p - 1)) := by
    show (if (8 : Int32) ≤ nI 8 then _ else _) = _
    rw [if_pos (by decide), vG_at hp (by omega), vG_at hp (by omega)]
    simp only [vL]
    rw [kp_r (by decide), show 8 * nI p = nI (8 * p + 0) from pk_mul 8 p]
  rw [eD, eM]
  obtain ⟨σ4, hσ4⟩ : ∃ w, w = ed_st (ed_st σ3 18 t 0 0) 21 p 0 (ρ3 1 0 p - 1) := ⟨_, rfl⟩
  obtain ⟨ρ4, hρ4⟩ : ∃ w, w = ed_st (kp_ t ρ3) 1 0 p (ρ3 1 0 p - 1) := ⟨_, rfl⟩
  have b4 : ag_ ρ3 ρ4 [1, 9] := by rw [hρ4]; exact (show ag_ ρ3 (kp_ t ρ3) [1, 9] from ag_.rf.st (by decide)).st (by decide)
  rw [← hσ4, ← hρ4] at z4
  rw [← hσ4, ← hρ4]
  have r1 : ρ4 1 0 p = ρ3 1 0 p - 1 := by rw [hρ4, ed_st_s]
  have fin : ∀ σ5 ρ5, zM (1300 * n + 8 * (16 - 0) + 8 * (8 - 0)) σ5 ρ5 T P (va_up q3 t []) → ag_ ρ4 ρ5 [3] → ∃ σ6 ρ6, F_Desk_lookWhoRuns σ5 = some σ6 ∧ F_Mod_end (nI t) ρ5 = some (nI t, ρ6) ∧ zS (n + 1) σ6 ρ6 := fun σ5 ρ5 z5 b5 => by
    obtain ⟨σ6, ρ6, l1, l2, l3, -, -⟩ := z5.fin (n := n + 1) (by omega) (by omega) (hC_up hC (by rw [b5.at 46 (by decide), b4.at 46 (by decide), f.2.1.at 46 (by decide), b1.at 46 (by decide)])) (fun _ => by
      have na3 := na1.fi hT8 f
      refine ⟨by rw [up_n (by omega), f.2.2.1 33 (Or.inr rfl)]; exact y2, fun u hu w1 w2 => ?_⟩
      rw [b5.at 7 (by decide), b4.at 7 (by decide)] at w1
      rw [b5.at 14 (by decide), b4.at 14 (by decide)] at w2
      by_cases c : u = t
      · rw [c, up_s]
      · rw [up_n c]; exact na3 u hu w1 w2) (nI t)
    exact ⟨σ6, ρ6, l1, l2, l3⟩
  by_cases c : ρ3 1 0 p - 1 = 0
  · rw [if_pos c]
    obtain ⟨σ5, ρ5, k1, k2, z5, b5⟩ := s_drops (x1 := nI t) hp ed_fu 0 σ4 ρ4 (by show _ < 64 + 0; omega) (by omega) z4 (by rw [r1]; exact c)
    have k1 : F_Desk_dropAllHandles p σ4 = some σ5 := k1
    obtain ⟨σ6, ρ6, l1, l2, l3⟩ := fin σ5 ρ5 z5 b5
    rw [vB1_at k1, vB1_at l1, k2, l2]
    exact jt_b rfl l3
  · rw [if_neg c]
    obtain ⟨σ6, ρ6, l1, l2, l3⟩ := fin σ4 ρ4 z4 ag_.rf
    have e177 : F_Mod_exit_177 ed_fu (nI t) (nI p) (nI (8 * p + 0)) ρ4 = F_Mod_end (nI t) ρ4 := by
      show (if (8 * nI p + 8) ≤ nI (8 * p + 0) then _ else _) = _
      rw [show 8 * nI p + 8 = nI (8 * p + 8) from ix8 p 8, if_neg (nI_ge (by omega) (by omega)), vG_at hp (by omega), if_neg (show ¬ ρ4 1 0 p = 0 by rw [r1]; exact c), vB2_eta]
    rw [e177, vB1_at l1, l2]
    exact jt_b rfl l3
