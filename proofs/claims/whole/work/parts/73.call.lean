/-! ===== the pure part: calls, delivery, alerts ===== -/
theorem gW.q {σ ρ : ed_S} {T : Nat} {q q' : Nat → List Nat} (hq : q' 32 = q 32) (h : gW σ ρ T q) : gW σ ρ T q' := by
  unfold gW at *
  rw [hq]
  exact h
theorem gD.q {ρ : ed_S} {T : Nat} {q q' : Nat → List Nat} (hq : ∀ p, p < 8 → q' (8 + p) = q (8 + p)) (h : gD ρ T q) : gD ρ T q' := ⟨fun p hp => by rw [hq p hp]; exact h.1 p hp, h.2⟩
theorem gV.q {ρ : ed_S} {q q' : Nat → List Nat} (hq : ∀ o, o < 16 → q' (16 + o) = q (16 + o)) (h : gV ρ q) : gV ρ q' := fun o ho => by rw [hq o ho]; exact h o ho
theorem gI.q {ρ : ed_S} {q q' : Nat → List Nat} (hq : q' 33 = q 33) (h : gI ρ q) : gI ρ q' := by
  unfold gI at *
  rw [hq]
  exact h
/-- the calls of t have changed -/
theorem gM.calls {σ ρ σ' ρ' : ed_S} {T P t : Nat} {q : Nat → List Nat} {l : List Nat} (m : gM σ ρ T P q) (ht : t < T) (hQ : gQ σ' (va_up q t l)) (a : ag_ σ σ' [12, 13, 18, 39]) (b : ag_ ρ ρ' [9, 10, 11, 18]) (hn : ∀ u, u ≠ t → σ' 12 u 0 = σ 12 u 0 ∧ σ' 13 u 0 = σ 13 u 0 ∧ ρ' 9 0 u = ρ 9 0 u ∧ ρ' 10 0 u = ρ 10 0 u ∧ ρ' 11 0 u = ρ 11 0 u) (h18 : ∀ d, d / 4 ≠ t → ρ' 18 0 d = ρ 18 0 d) (h12 : σ' 12 t 0 = ρ' 10 0 t) (h13 : σ' 13 t 0 = ρ' 11 0 t) (h9 : ρ' 9 0 t = nI l.length) (hl : ∀ j v, l[j]? = some v → ρ' 18 0 (4 * t + j) = nI v) : gM σ' ρ' T P (va_up q t l) := by
  have hT8 := m.2.1.2.1
  obtain ⟨nQ, nA, nT, nU, nR, nC, nW, nD, nX, nV, nI', nP, nH, nO⟩ := m
  have hhc : ∀ o, hc_ ρ' o = hc_ ρ o := fun o => hc_.ag b (by decide) o
  have q33 : va_up q t l 33 = q 33 := up_n (by omega)
  have hpc : ∀ o, pc_ ρ' T (va_up q t l 33).length o = pc_ ρ T (q 33).length o := fun o => by rw [q33]; exact pc_.ag b (by decide) (fun t _ => by rw [b.at 7 (by decide)]) o
  refine ⟨hQ, nA.ag a b (by decide) (by decide), fun u hu => ?_, fun u hu hu8 => ?_, nR.ag b (by decide), fun u hu => ?_, (nW.ag a b (by decide) (by decide)).q (up_n (by omega)), (nD.ag b (by decide)).q (fun p _ => up_n (by omega)), nX.ag a b (by decide) (by decide), (nV.ag b (by decide)).q (fun o _ => up_n (by omega)), (nI'.ag b (by decide)).q q33, nP.ag a b (by decide) (by decide), nH.ag a (by decide) hhc hpc, nO.ag a b (by decide) (by decide) hhc hpc⟩
  · obtain ⟨b1, b2, b3, b4, b5, b6, b7, b8⟩ := nT u hu
    rw [a.at 8 (by decide), a.at 9 (by decide), a.at 10 (by decide), a.at 11 (by decide), a.at 14 (by decide), b.at 5 (by decide), b.at 6 (by decide), b.at 7 (by decide), b.at 8 (by decide), b.at 12 (by decide)]
    by_cases c : u = t
    · subst c
      exact ⟨b1, b2, b3, b4, h12, h13, b7, b8⟩
    · obtain ⟨k1, k2, k3, k4, k5⟩ := hn u c
      rw [k1, k2, k4, k5]
      exact ⟨b1, b2, b3, b4, b5, b6, b7, b8⟩
  · have c : u ≠ t := by omega
    obtain ⟨k1, k2, k3, k4, k5⟩ := hn u c
    rw [a.at 11 (by decide), a.at 14 (by decide), b.at 12 (by decide), k1, k2, k3, k4, k5, up_n c]
    exact nU u hu hu8
  · by_cases c : u = t
    · subst c
      rw [up_s]
      exact ⟨h9, hl⟩
    · rw [up_n c, (hn u c).2.2.1]
      obtain ⟨c1, c2⟩ := nC u hu
      refine ⟨c1, fun j v hj => ?_⟩
      have hjl := (List.getElem?_eq_some_iff.mp hj).1
      have hc4 : (q u).length ≤ 4 := by
        have := (nQ u (by omega)).2.1
        unfold ed_cap at this
        rw [if_pos (by omega)] at this
        exact this
      rw [h18 _ (by omega)]
      exact c2 j v hj
theorem d_deliver {t : Nat} : ∀ (l : List Nat) (n : Nat) (σ : ed_S), rw_ σ t l → l.length < n → ∃ σ', F_Thr_deliverCalls_8 n t (nI l.length) σ = some σ' ∧ ag_ σ σ' [12, 13, 18, 39] ∧ (∀ r l', r ≠ t → rw_ σ r l' → rw_ σ' r l') ∧ rw_ σ' t [] ∧ (∀ u, u ≠ t → σ' 12 u 0 = σ 12 u 0 ∧ σ' 13 u 0 = σ 13 u 0) ∧ σ' 12 t 0 = σ 12 t 0 + nI l.length ∧ ∀ v, l.getLast? = some v → σ' 13 t 0 = nI v := by
  intro l
  induction l with
  | nil =>
    intro n σ h hn
    obtain ⟨n, rfl⟩ : ∃ z, n = z + 1 := ⟨n - 1, by omega⟩
    refine ⟨σ, rfl, ag_.rf, fun _ _ _ h => h, h, fun _ _ => ⟨rfl, rfl⟩, ?_, fun v hv => by simp at hv⟩
    show _ = _ + nI 0
    rw [show nI 0 = 0 from rfl, Int32.add_zero]
  | cons x l ih =>
    intro n σ h hn
    simp only [List.length_cons] at hn
    obtain ⟨n, rfl⟩ : ∃ z, n = z + 1 := ⟨n - 1, by omega⟩
    have hcap := h.2.1
    have c8 := ed_cap8 t
    simp only [List.length_cons] at hcap
    obtain ⟨σ1, e1, f1, g1⟩ := row_removeFirst h
    obtain ⟨σ2, hσ2⟩ : ∃ z, z = ed_st (ed_st σ1 13 t 0 (nI x)) 12 t 0 (σ1 12 t 0 + 1) := ⟨_, rfl⟩
    have g2 : ∀ r l', rw_ σ1 r l' → rw_ σ2 r l' := fun r l' w => by rw [hσ2]; exact (w.st (by decide) (by decide)).st (by decide) (by decide)
    obtain ⟨σ', k1, k2, k3, k4, k5, k6, k7⟩ := ih n σ2 (g2 t l g1) (by omega)
    have a1 : ag_ σ σ2 [12, 13, 18, 39] := by rw [hσ2]; exact ((ag_.rf.fr f1 (by decide) (by decide)).st (by decide)).st (by decide)
    refine ⟨σ', ?_, a1.tr k2, fun r l' hr w => k3 r l' hr (g2 r l' (w.keep f1 hr)), k4, fun u hu => ?_, ?_, fun v hv => ?_⟩
    · rw [show (x :: l).length = l.length + 1 from rfl]
      show (if nI (l.length + 1) ≤ 0 then _ else _) = _
      rw [if_neg (nI_nle (by omega) (by omega)), vB2_at e1]
      simp only [vL]
      rw [ed_st_n (show ¬ (12 = 13 ∧ t = t ∧ 0 = 0) by omega), pk_m1, ← hσ2]
      exact k1
    · obtain ⟨z1, z2⟩ := k5 u hu
      rw [z1, z2, hσ2, ed_st_n (by omega), ed_st_n (by omega), ed_st_n (by omega), ed_st_n (by omega), f1 12 u 0 (by omega), f1 13 u 0 (by omega)]
      exact ⟨rfl, rfl⟩
    · rw [k6, hσ2, ed_st_s, f1 12 t 0 (by omega)]
      show _ = _ + nI (l.length + 1)
      rw [← nI_1, Int32.add_assoc, Int32.add_comm 1 (nI l.length)]
    · cases l with
      | nil =>
        simp at hv
        subst hv
        have : σ' = σ2 := by
          obtain ⟨n, rfl⟩ : ∃ z, n = z + 1 := ⟨n - 1, by omega⟩
          have h2 : some σ2 = some σ' := k1
          exact (Option.some.inj h2).symm
        rw [this, hσ2, ed_st_n (by omega), ed_st_s]
      | cons y l => exact k7 v (by rw [← hv]; simp [List.getLast?_cons_cons])
theorem s_deliver {σ ρ : ed_S} {T P t : Nat} {q : Nat → List Nat} (m : gM σ ρ T P q) (ht : t < T) (hne : q t ≠ []) : ∃ σ' ρ', F_Thr_deliverCalls t σ = some σ' ∧ F_Mod_deliver (nI t) ρ = some ρ' ∧ gM σ' ρ' T P (va_up q t []) ∧ ag_ σ σ' [12, 13, 18, 39] ∧ ag_ ρ ρ' [9, 10, 11] := by
  have m' := m
  obtain ⟨nQ, nA, nT, nU, nR, nC, nW, nD, nX, nV, nI', nP, nH, nO⟩ := m
  have hT8 := nA.2.1
  have hrow := nQ t (by omega)
  have hc4 : (q t).length ≤ 4 := by
    have := hrow.2.1
    unfold ed_cap at this
    rw [if_pos (by omega)] at this
    exact this
  obtain ⟨σ', e1, a, k3, k4, k5, k6, k7⟩ := d_deliver (q t) ed_fu σ hrow (by show _ < 64; omega)
  obtain ⟨c1, c2⟩ := nC t ht
  have hlen : 0 < (q t).length := List.length_pos_iff.mpr hne
  obtain ⟨v, hv⟩ : ∃ v, (q t).getLast? = some v := ⟨(q t).getLast hne, List.getLast?_eq_some_getLast hne⟩
  have hv' : (q t)[(q t).length - 1]? = some v := by rw [← List.getLast?_eq_getElem?]; exact hv
  have h18 : ρ 18 0 (4 * t + (q t).length - 1) = nI v := by
    rw [show 4 * t + (q t).length - 1 = 4 * t + ((q t).length - 1) by omega]
    exact c2 _ v hv'
  obtain ⟨ρ', hρ'⟩ : ∃ z, z = ed_st (ed_st (ed_st ρ 10 0 t (ρ 10 0 t + nI (q t).length)) 11 0 t (nI v)) 9 0 t 0 := ⟨_, rfl⟩
  have b : ag_ ρ ρ' [9, 10, 11] := by rw [hρ']; exact ((ag_.rf.st (by decide)).st (by decide)).st (by decide)
  obtain ⟨b1, b2, b3, b4, b5, b6, b7, b8⟩ := nT t ht
  refine ⟨σ', ρ', ?_, ?_, m'.calls ht ?_ a (b.mo (by decide)) (fun u hu => ?_) (fun d _ => b.at 18 (by decide) 0 d) ?_ ?_ ?_ (fun j v hj => by simp at hj), a, b⟩
  · unfold F_Thr_deliverCalls
    rw [hrow.1]
    exact e1
  · unfold F_Mod_deliver
    have ht8 : t < 8 := by omega
    simp only [vG_at ht8 (show 8 < 2 ^ 31 by omega), vL]
    rw [c1, if_neg (nI_ne0 hlen (by omega)), ed_st_n (show ¬ (9 = 10 ∧ 0 = 0 ∧ t = t) by omega), c1, ix4]
    obtain ⟨z, hz⟩ : ∃ z, 4 * t + (q t).length = z + 1 := ⟨4 * t + (q t).length - 1, by omega⟩
    rw [hz, nI_pred, vG_at (by omega) (by omega), ed_st_n (show ¬ (18 = 10 ∧ 0 = 0 ∧ z = t) by omega)]
    rw [show 4 * t + (q t).length - 1 = z by omega] at h18
    rw [h18, hρ']
  · intro r hr
    by_cases c : r = t
    · subst c; rw [up_s]; exact k4
    · rw [up_n c]; exact k3 r _ c (nQ r hr)
  · obtain ⟨z1, z2⟩ := k5 u hu
    rw [z1, z2, hρ', ed_st_n (by omega), ed_st_n (by omega), ed_st_n (by omega), ed_st_n (by omega), ed_st_n (by omega), ed_st_n (by omega), ed_st_n (by omega), ed_st_n (by omega), ed_st_n (by omega)]
    exact ⟨rfl, rfl, rfl, rfl, rfl⟩
  · rw [k6, b5, hρ', ed_st_n (by omega), ed_st_n (by omega), ed_st_s]
  · rw [k7 v hv, hρ', ed_st_n (by omega), ed_st_s]
  · rw [hρ', ed_st_s]; rfl
/-- t is alerted, if it is due -/
theorem s_alert {σ ρ : ed_S} {T P t b : Nat} {q : Nat → List Nat} (z : zM b σ ρ T P q) (ht : t < T) (hb : b + 1 < 1000000) : ∃ σ' ρ' q', F_Desk_alertIfDue (nI t) σ = some σ' ∧ F_Mod_alert (nI t) ρ = some ρ' ∧ zM (b + 1) σ' ρ' T P q' ∧ ag_ σ σ' [10, 11, 12, 13, 18, 25, 39] ∧ ag_ ρ ρ' [7, 8, 9, 10, 11, 13, 16, 51] ∧ (∀ r, r < 8 ∨ (16 ≤ r ∧ r ≠ 32) → r ≠ t → q' r = q r) ∧ (∀ u, ρ' 7 0 u = 2 → ρ 7 0 u = 2) ∧ (ρ 47 0 0 = 0 → ρ' 7 0 t = 2 → ¬ ρ 14 0 t < 2 → q' t = []) := by
  obtain ⟨m, h2, h3, h4, h5, h6⟩ := z
  have m' := m
  obtain ⟨nQ, nA, nT, nU, nR, nC, nW, nD, nX, nV, nI', nP, nH, nO⟩ := m
  have hT8 := nA.2.1
  have ht8 : t < 8 := by omega
  obtain ⟨b1, b2, b3, b4, b5, b6, b7, b8⟩ := nT t ht
  have hc4 : (q t).length ≤ 4 := by
    have := (nQ t (by omega)).2.1
    unfold ed_cap at this
    rw [if_pos (by omega)] at this
    exact this
  have keep : F_Desk_alertIfDue (nI t) σ = some σ → F_Mod_alert (nI t) ρ = some ρ → (ρ 47 0 0 = 0 → ρ 7 0 t = 2 → ¬ ρ 14 0 t < 2 → q t = []) → ∃ σ' ρ' q', F_Desk_alertIfDue (nI t) σ = some σ' ∧ F_Mod_alert (nI t) ρ = some ρ' ∧ zM (b + 1) σ' ρ' T P q' ∧ ag_ σ σ' [10, 11, 12, 13, 18, 25, 39] ∧ ag_ ρ ρ' [7, 8, 9, 10, 11, 13, 16, 51] ∧ (∀ r, r < 8 ∨ (16 ≤ r ∧ r ≠ 32) → r ≠ t → q' r = q r) ∧ (∀ u, ρ' 7 0 u = 2 → ρ 7 0 u = 2) ∧ (ρ 47 0 0 = 0 → ρ' 7 0 t = 2 → ¬ ρ 14 0 t < 2 → q' t = []) := fun e1 e2 e3 => ⟨σ, ρ, q, e1, e2, ⟨m', h2.mo (by omega), h3, h4, h5, h6⟩, ag_.rf, ag_.rf, fun _ _ _ => rfl, fun _ w => w, e3⟩
  have eD : F_Desk_alertIfDue (nI t) σ = (if (ρ 47 0 0) = 0 then (if (ρ 7 0 t) = 2 then (if (σ 16 t 0) = 0 then (some σ) else (if nI (q t).length ≤ 0 then (some σ) else (vB1 (F_Desk_endWait (nI t) (-12) σ) fun σ9 => (vB1 (F_Thr_deliverCalls t σ9) fun σ11 => (some σ11))))) else (some σ)) else (some σ)) := by
    unfold F_Desk_alertIfDue
    rw [vG_at ht8 (by omega), nA.2.2.2.2.2.2.2.2.1, b3, (nQ t (by omega)).1]
  have eM : F_Mod_alert (nI t) ρ = (if (ρ 7 0 t) = 2 then (if (ρ 14 0 t) < 2 then (some ρ) else (if nI (q t).length = 0 then (some ρ) else (if (ρ 47 0 0) = 1 then (some ρ) else (vB1 (F_Mod_go (nI t) (-12) ρ) fun σ17 => (vB1 (F_Mod_deliver (nI t) σ17) fun σ19 => (some σ19)))))) else (some ρ)) := by
    unfold F_Mod_alert
    simp only [vG_at ht8 (show 8 < 2 ^ 31 by omega)]
    rw [(nC t ht).1]
  rcases nA.2.2.2.2.2.2.2.2.2.1 with hl | hl
  · rw [if_pos hl] at eD
    by_cases c : ρ 7 0 t = 2
    · obtain ⟨v1, v2, v3, v3', v4, v5, v6⟩ := nW.2.2.1 t ht c
      rw [if_pos c] at eD eM
      by_cases c2 : ρ 14 0 t < 2
      · rw [if_pos (v5.mpr c2)] at eD
        rw [if_pos c2] at eM
        exact keep eD eM (fun _ _ w => absurd c2 w)
      · rw [if_neg (fun w => c2 (v5.mp w))] at eD
        rw [if_neg c2] at eM
        by_cases c3 : q t = []
        · rw [c3, if_pos (by decide)] at eD
          rw [c3, if_pos (by decide)] at eM
          exact keep eD eM (fun _ _ _ => c3)
        · have hlen : 0 < (q t).length := List.length_pos_iff.mpr c3
          rw [if_neg (nI_nle hlen (by omega))] at eD
          rw [if_neg (nI_ne0 hlen (by omega)), if_neg (show ¬ ρ 47 0 0 = 1 by rw [hl]; decide)] at eM
          obtain ⟨σ1, ρ1, q1, f1, f2, m1, f3, f4, f5, f6, f7, f8, f9, f10⟩ := s_go m' (h2.nw (by omega)) ht c (-12)
          have hq1 : q1 t = q t := f6 t (by omega)
          obtain ⟨σ2, ρ2, g1, g2, m2, g3, g4⟩ := s_deliver m1 ht (by rw [hq1]; exact c3)
          refine ⟨σ2, ρ2, va_up q1 t [], ?_, ?_, ⟨m2, ?_, ?_, ?_, ?_, ?_⟩, ?_, ?_, fun r hr hrt => ?_, fun u hu => ?_, fun _ hw _ => ?_⟩
          · rw [eD, vB1_at f1, vB1_at g1]
          · rw [eM, vB1_at f2, vB1_at g2]
          · exact (h2.s (by omega) f7 (f4.at 52 (by decide) 0 0)).ag g4 (by decide)
          · intro u hu s
            rw [up_n (by omega), f5] at hu
            exact h3 u (List.mem_filter.mp hu).1 ((sat_.ag f4 (by decide)).mp ((sat_.ag g4 (by decide)).mp s))
          · exact (h4.ag f4 (by decide) (f6 33 (by omega))).ag g4 (by decide) (up_n (by omega))
          · exact (h5.ag f4 (by decide)).ag g4 (by decide)
          · exact (h6.ag f4 (by decide)).ag g4 (by decide)
          · exact (f3.mo (by decide)).tr (g3.mo (by decide))
          · exact (f4.mo (by decide)).tr (g4.mo (by decide))
          · rw [up_n hrt]; exact f6 r hr
          · rw [g4.at 7 (by decide)] at hu
            by_cases cu : u = t
            · subst cu; exact c
            · rw [f8 u cu] at hu; exact hu
          · rw [up_s]
    · rw [if_neg c] at eD eM
      exact keep eD eM (fun _ w _ => absurd w c)
  · rw [if_neg (show ¬ ρ 47 0 0 = 0 by rw [hl]; decide)] at eD
    refine keep eD ?_ (fun w => by rw [hl] at w; exact absurd w (by decide))
    rw [eM]
    split
    · split
      · rfl
      · split
        · rfl
        · first | rfl | rw [if_pos hl]
    · rfl
theorem iw_1n {x b : Int32} {n : Nat} (hb : b = nI n) (hn : n < 1000) (h : ¬ iw_ x 1 b = 0) : ∃ r, 0 < r ∧ r ≤ n ∧ x = nI r := by
  unfold iw_ at h
  by_cases c1 : x < 1
  · rw [if_pos c1] at h
    exact absurd rfl h
  · rw [if_neg c1] at h
    by_cases c2 : b < x
    · rw [if_pos c2] at h
      exact absurd rfl h
    · have h0 : ¬ x < 0 := fun z => c1 (by
        rw [Int32.lt_iff_toInt_lt] at *
        have e1 : (1 : Int32).toInt = 1 := by decide
        have e0 : (0 : Int32).toInt = 0 := by decide
        omega)
      obtain ⟨j, hj, rfl⟩ := nI_of h0
      refine ⟨j, ?_, ?_, rfl⟩
      · rw [show (1 : Int32) = nI 1 from rfl, nI_ltI (by omega) (by omega)] at c1
        omega
      · rw [hb, nI_ltI (by omega) (by omega)] at c2
        omega
theorem c_call (n : Nat) (x1 x2 : Int32) (σ ρ : ed_S) (hn : n < 512) (hS : zS n σ ρ) : jt_ (zS (n + 1)) (F_Desk_call x1 x2 σ) (F_Mod_call x1 x2 ρ) := by
  have hS' := hS.mo
  obtain ⟨T, P, q, ⟨m, hb, hqu, hJ, hK, hL⟩, hC, ti, hl⟩ := hS
  have m' := m
  obtain ⟨nQ, nA, nT, nU, nR, nC, nW, nD, nX, nV, nI', nP, nH, nO⟩ := m
  obtain ⟨a1, a2, a3, a4, a5, a6, a7, a8, a9, a10, a11, a12, a13⟩ := nA
  unfold F_Desk_call F_Mod_call
  rw [vB2_at (d_is _ _ _ _), vB2_at (m_is _ _ _ _), a5, a6]
  rcases iw_c (x := x1) (pred_i a2) (by omega) with h | ⟨t, ht, rfl, h⟩
  · rw [if_pos h, if_pos h]
    exact jt_b rfl hS'
  rw [if_neg h, if_neg h]
  have ht8 : t < 8 := by omega
  simp only [vG_at ht8 (show 8 < 2 ^ 31 by omega)]
  obtain ⟨b1, b2, b3, b4, b5, b6, b7, b8⟩ := nT t ht
  rw [b3]
  refine jt_if Iff.rfl (fun _ => jt_b rfl hS') (fun _ => ?_)
  rw [vB2_at (d_is _ _ _ _), vB2_at (m_is _ _ _ _)]
  refine jt_if Iff.rfl (fun _ => jt_b rfl hS') (fun w => ?_)
  obtain ⟨v, hv0, hv, rfl⟩ := iw_1n (n := 99) rfl (by omega) w
  have hrow := nQ t (by omega)
  obtain ⟨c1, c2⟩ := nC t ht
  have hcap : ed_cap t = 4 := by unfold ed_cap; rw [if_pos ht8]
  have hc4 : (q t).length ≤ 4 := by rw [← hcap]; exact hrow.2.1
  rw [hrow.1, c1]
  refine jt_if Iff.rfl (fun _ => jt_b rfl hS') (fun c => ?_)
  have hlt : (q t).length < 4 := by
    rcases Nat.lt_or_ge (q t).length 4 with z | z
    · exact z
    · exact absurd (show nI (q t).length = 4 by rw [show (q t).length = 4 by omega]; rfl) c
  obtain ⟨σ1, e1, f1, g1⟩ := row_addLast (x := v) hrow (by omega)
  simp only [vL]
  rw [nI_1, ix4, vG_at (by omega) (by omega), vB1_at e1]
  obtain ⟨ρ1, hρ1⟩ : ∃ z, z = ed_st (ed_st ρ 9 0 t (nI ((q t).length + 1))) 18 0 (4 * t + (q t).length) (nI v) := ⟨_, rfl⟩
  rw [← hρ1]
  have hA : ag_ σ σ1 [12, 13, 18, 39] := ag_.rf.fr f1 (by decide) (by decide)
  have hB : ag_ ρ ρ1 [9, 18] := by rw [hρ1]; exact (ag_.rf.st (by decide)).st (by decide)
  have m1 : gM σ1 ρ1 T P (va_up q t (q t ++ [v])) := by
    refine m'.calls ht (nQ.up f1 g1) hA (hB.mo (by decide)) (fun u hu => ?_) (fun d hd => ?_) ?_ ?_ ?_ (fun j w hj => ?_)
    · rw [f1 12 u 0 (by omega), f1 13 u 0 (by omega), hB.at 10 (by decide), hB.at 11 (by decide), hρ1, ed_st_n (by omega), ed_st_n (by omega)]
      exact ⟨rfl, rfl, rfl, rfl, rfl⟩
    · rw [hρ1, ed_st_n (by omega), ed_st_n (by omega)]
    · rw [f1 12 t 0 (by omega), hB.at 10 (by decide)]; exact b5
    · rw [f1 13 t 0 (by omega), hB.at 11 (by decide)]; exact b6
    · rw [hρ1, ed_st_n (by omega), ed_st_s, List.length_append]; rfl
    · rcases Nat.lt_or_ge j (q t).length with hj2 | hj2
      · rw [List.getElem?_append_left hj2] at hj
        rw [hρ1, ed_st_n (by omega), ed_st_n (by omega)]
        exact c2 j w hj
      · have hjl := (List.getElem?_eq_some_iff.mp hj).1
        rw [List.length_append] at hjl
        simp only [List.length_singleton] at hjl
        have hje : j = (q t).length := by omega
        subst hje
        rw [List.getElem?_append_right (Nat.le_refl _), Nat.sub_self] at hj
        simp at hj
        rw [hρ1, ed_st_s, hj]
  have z1 : zM (1300 * n) σ1 ρ1 T P (va_up q t (q t ++ [v])) := ⟨m1, hb.ag hB (by decide), hqu.ag hB (by decide) (fun u hu => by rw [up_n (by omega)] at hu; exact hu), hJ.ag hB (by decide) (up_n (by omega)), hK.ag hB (by decide), hL.ag hB (by decide)⟩
  obtain ⟨σ2, ρ2, q2, k1, k2, z2, k3, k4, k5, k6, k7⟩ := s_alert z1 ht (by omega)
  rw [vB1_at k1, vB1_at k2]
  have r9 := (z2.1.2.2.2.2.2.1 t ht).1
  obtain ⟨σ3, ρ3, l1, l2, l3, l4, l5⟩ := z2.fin (n := n + 1) (by omega) (by omega) (hC_up hC (by rw [k4.at 46 (by decide), hB.at 46 (by decide)])) (fun z => by
    rw [k4.at 47 (by decide)] at z
    have z' := z
    rw [hB.at 47 (by decide)] at z'
    obtain ⟨y1, y2, y3⟩ := hl z'
    refine ⟨?_, fun u hu w1 w2 => ?_⟩
    · rw [k5 33 (by omega) (by omega), up_n (by omega)]; exact y2
    · rw [k4.at 14 (by decide)] at w2
      by_cases cu : u = t
      · subst cu
        exact k7 z w1 w2
      · rw [k5 u (by omega) cu, up_n cu]
        refine y3 u hu ?_ ?_
        · have := k6 u w1
          rw [hB.at 7 (by decide)] at this
          exact this
        · rw [hB.at 14 (by decide)] at w2; exact w2) (ρ2 9 0 t)
  rw [vB1_at l1, vB2_at l2]
  have := (l5 t ht8 _ (z2.1.1 t (by omega))).1
  exact jt_b (by rw [this, r9]) l3
