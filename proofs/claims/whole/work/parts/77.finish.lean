/-! ===== the pure part: interrupts, cancel ===== -/
theorem gW.up {σ σ' ρ ρ' : ed_S} {L L' : List Nat} {T : Nat} {q q' : Nat → List Nat} (a : ag_ σ σ' L) (b : ag_ ρ ρ' L') (h1 : ∀ k ∈ [15, 16, 17, 40], k ∉ L) (h2 : ∀ k ∈ [7, 13, 14, 15, 17, 22], k ∉ L') (ho : ρ 51 0 0 ≤ ρ' 51 0 0) (hq : q' 32 = q 32) (h : gW σ ρ T q) : gW σ' ρ' T q' := by
  unfold gW pl_ at *
  simp only [hq, a.at 15 (h1 15 (by decide)), a.at 16 (h1 16 (by decide)), a.at 17 (h1 17 (by decide)), a.at 40 (h1 40 (by decide)), b.at 7 (h2 7 (by decide)), b.at 13 (h2 13 (by decide)), b.at 14 (h2 14 (by decide)), b.at 15 (h2 15 (by decide)), b.at 17 (h2 17 (by decide)), b.at 22 (h2 22 (by decide))]
  obtain ⟨w1, w2, w3, w4⟩ := h
  refine ⟨w1, w2, fun t ht z => ?_, w4⟩
  obtain ⟨v1, v2, v3⟩ := w3 t ht z
  exact ⟨v1, le_tr v2 ho, v3⟩
theorem gD.up {ρ ρ' : ed_S} {L' : List Nat} {T : Nat} {q q' : Nat → List Nat} (b : ag_ ρ ρ' L') (h2 : ∀ k ∈ [6, 7, 16, 52], k ∉ L') (ho : ρ 51 0 0 ≤ ρ' 51 0 0) (hq : ∀ p, p < 8 → q' (8 + p) = q (8 + p)) (h : gD ρ T q) : gD ρ' T q' := by
  unfold gD at *
  simp only [b.at 6 (h2 6 (by decide)), b.at 7 (h2 7 (by decide)), b.at 16 (h2 16 (by decide)), b.at 52 (h2 52 (by decide))]
  exact ⟨fun p hp => by rw [hq p hp]; exact h.1 p hp, fun t ht z => ⟨(h.2 t ht z).1, le_tr (h.2 t ht z).2 ho⟩⟩
theorem lay_ : ∀ c, c < 10 → ((nI c &&& 5) = 5 ↔ (¬ nI c &&& 1 = 0) ∧ ¬ nI c &&& 4 = 0) := by decide +kernel
theorem d_layer (o : Nat) (x : Int32) (σ : ed_S) : F_Obj_hasLayer o x σ = some (if σ 26 o 0 &&& x = 0 then 0 else 1, σ) := by
  unfold F_Obj_hasLayer
  split <;> rfl
/-- the first transfer of a device ends, or goes down again -/
theorem s_finish {b T P o : Nat} {σ ρ : ed_S} {q : Nat → List Nat} {x2 : Int32} (z : zM b σ ρ T P q) (ho : o < 16) (h5 : ρ 22 0 o = 5) (hb : b + 8 < 1000000) : ∃ σ' ρ' q', F_Desk_finishFirst o x2 σ = some σ' ∧ F_Mod_finish (nI o) x2 ρ = some ρ' ∧ zM (b + 8) σ' ρ' T P q' ∧ fi_ σ ρ σ' ρ' q q' := by
  have z' := z
  obtain ⟨m, k2, k3, k4, k5, k6⟩ := z
  have m' := m
  obtain ⟨nQ, nA, nT, nU, nR, nC, nW, nD, nX, nV, nI', nP, nH, nO⟩ := m
  obtain ⟨v1, v2⟩ := nV o ho
  have ef : F_Mod_firstOf (nI o) ρ = some (hi_ (q (16 + o)), ρ) := m_firstOf v2 v1
  have hrow := nQ (16 + o) (by omega)
  unfold F_Desk_finishFirst F_Mod_finish
  rw [vB2_at ef]
  cases hq : q (16 + o) with
  | nil =>
    rw [hq] at hrow
    rw [vB2_at (row_removeNone hrow), if_pos rfl]
    refine ⟨σ, ρ, q, rfl, ?_, z'.mo (by omega), fi_.rf⟩
    show (if (0 : Int32) ≤ -1 then _ else _) = _
    rw [if_neg (by decide)]
  | cons i l =>
    rw [hq] at hrow v1
    obtain ⟨hi, h0, h34⟩ := (v2 i).mp (by rw [hq]; exact List.mem_cons_self)
    obtain ⟨σ1, e1, f1, g1⟩ := row_removeFirst hrow
    have hnd := pw_nd v1
    have hil : i ∉ l := (List.nodup_cons.mp hnd).1
    have a1 : ag_ σ σ1 [18, 39] := ag_.rf.fr f1 (by decide) (by decide)
    have mi : gMi σ1 ρ T P (va_up q (16 + o) l) i := gMi.rm m' ho h34 f1 g1 (fun j => by
      rw [hq, List.mem_cons]
      constructor
      · intro w; exact ⟨Or.inr w, fun e => hil (e ▸ w)⟩
      · intro w; exact w.1.resolve_left w.2) (List.pairwise_cons.mp v1).2
    have zi : zMi b σ1 ρ T P (va_up q (16 + o) l) i := ⟨mi, k2, fun t ht => k3 t (by rw [up_n (by omega)] at ht; exact ht), k4.ag (ag_.rf (L := [])) (by decide) (up_n (by omega)), k5, k6⟩
    have fi1 : fi_ σ ρ σ1 ρ q (va_up q (16 + o) l) := ⟨a1.mo (by decide), ag_.rf, fun r hr => up_n (by omega), fun _ => Or.inl rfl⟩
    have over : ∀ s y, 0 < s → s < 6 → ∃ σ' ρ' q', F_Desk_conclude i (nI s) y σ1 = some σ' ∧ F_Mod_over (nI i) (nI s) y ρ = some ρ' ∧ zM (b + 8) σ' ρ' T P q' ∧ fi_ σ ρ σ' ρ' q q' := fun s y hs hs6 => by
      obtain ⟨σ', ρ', q', w1, w2, w3, w4⟩ := s_over (y := y) zi hi h0 hs hs6 hb
      exact ⟨σ', ρ', q', w1, w2, w3, fi1.tr w4⟩
    obtain ⟨x1, x2', x3, x4, x5, x6, x7, x8, x9, x10, x11, x12⟩ := nX i hi
    have hob := (nO.2 o ho (th_tr hi h0 (Or.inl h34))).1
    obtain ⟨h26, c, hc, h24⟩ := hob.2.2.2.2.2.2.2.2.2.1 (Or.inr (Or.inr h5))
    rw [vB2_at e1, if_neg (nI_m1 (by omega))]
    rw [show hi_ (i :: l) = nI i from rfl, if_pos (nI_pos' (by omega))]
    simp only [vG_at hi (show 8 < 2 ^ 31 by omega), vG_at ho (show 16 < 2 ^ 31 by omega)]
    rw [a1.at 37 (by decide), x7, a1.at 35 (by decide), x5]
    by_cases c1 : ρ 38 0 i = 0
    · rw [if_pos c1, if_pos c1]
      by_cases c2 : x2 = 0
      · rw [if_pos c2, if_pos c2, vB2_at (d_layer _ _ _), a1.at 26 (by decide), h26, h24]
        obtain ⟨σ', ρ', q', w1, w2, w3, w4⟩ := over 4 0 (by omega) (by omega)
        have w1 : F_Desk_conclude i 4 0 σ1 = some σ' := w1
        have w2 : F_Mod_over (nI i) 4 0 ρ = some ρ' := w2
        have hlay := lay_ c hc
        by_cases c3 : nI c &&& 1 = 0
        · rw [if_pos c3, if_pos rfl, if_neg (fun w => (hlay.mp w).1 c3), vB1_at w1, vB1_at w2]
          exact ⟨σ', ρ', q', rfl, rfl, w3, w4⟩
        · rw [if_neg c3, if_neg (show ¬ (1 : Int32) = 0 by decide), vB2_at (d_layer _ _ _), a1.at 26 (by decide), h26, h24]
          by_cases c4 : nI c &&& 4 = 0
          · rw [if_pos c4, if_pos rfl, if_neg (fun w => (hlay.mp w).2 c4), vB1_at w1, vB1_at w2]
            exact ⟨σ', ρ', q', rfl, rfl, w3, w4⟩
          · rw [if_neg c4, if_neg (show ¬ (1 : Int32) = 0 by decide), if_pos (hlay.mpr ⟨c3, c4⟩), a1.at 38 (by decide), x8]
            by_cases c5 : ρ 39 0 i = 0
            · rw [if_pos c5, if_pos c5]
              -- down again
              obtain ⟨σ2, hσ2⟩ : ∃ w, w = ed_st σ1 38 i 0 1 := ⟨_, rfl⟩
              have hcap := hrow.2.1
              simp only [List.length_cons] at hcap
              have g2 : gQ σ2 (va_up q (16 + o) l) := fun r hr => by rw [hσ2]; exact (mi.1 r hr).st (by decide) (by decide)
              have g2' := g2 (16 + o) (by omega)
              rw [up_s] at g2'
              obtain ⟨σ3, e3, f3, g3⟩ := row_addLast (x := i) g2' (by omega)
              obtain ⟨ρ3, hρ3⟩ : ∃ w, w = ed_st (ed_st (ed_st ρ 39 0 i 1) 51 0 0 (ρ 51 0 0 + 1)) 37 0 i (ρ 51 0 0 + 1) := ⟨_, rfl⟩
              have a : ag_ σ σ3 [18, 38, 39] := by
                have : ag_ σ σ2 [18, 38, 39] := by rw [hσ2]; exact (a1.mo (by decide)).st (by decide)
                exact this.fr f3 (by decide) (by decide)
              have b' : ag_ ρ ρ3 [37, 39, 51] := by rw [hρ3]; exact ((ag_.rf.st (by decide)).st (by decide)).st (by decide)
              have r37 : ∀ j, ρ3 37 0 j = if j = i then ρ 51 0 0 + 1 else ρ 37 0 j := fun j => by rw [hρ3]; simp [ed_st]
              have r39 : ∀ j, ρ3 39 0 j = if j = i then 1 else ρ 39 0 j := fun j => by rw [hρ3]; simp [ed_st]
              have r51 : ρ3 51 0 0 = ρ 51 0 0 + 1 := by rw [hρ3]; simp [ed_st]
              have s38 : ∀ j, σ3 38 j 0 = if j = i then 1 else σ 38 j 0 := fun j => by
                rw [f3 38 j 0 (by omega), hσ2]
                by_cases cj : j = i
                · rw [if_pos cj, cj, ed_st_s]
                · rw [if_neg cj, ed_st_n (by omega), a1.at 38 (by decide)]
              have i51 := add1 (k2.nw (by omega)).2.2.2
              have hle51 : ρ 51 0 0 ≤ ρ3 51 0 0 := by rw [r51, Int32.le_iff_toInt_le, i51]; omega
              have hhc : ∀ o, hc_ ρ3 o = hc_ ρ o := fun o => hc_.ag b' (by decide) o
              obtain ⟨q3, hq3⟩ : ∃ w, w = va_up (va_up q (16 + o) l) (16 + o) (l ++ [i]) := ⟨_, rfl⟩
              have q3n : ∀ r, r ≠ 16 + o → q3 r = q r := fun r hr => by rw [hq3, up_n hr, up_n hr]
              have q3s : q3 (16 + o) = l ++ [i] := by rw [hq3, up_s]
              have hpc : ∀ o, pc_ ρ3 T (q3 33).length o = pc_ ρ T (q 33).length o := fun o => by rw [q3n 33 (by omega)]; exact pc_.ag b' (by decide) (fun t _ => by rw [b'.at 7 (by decide)]) o
              have m3 : gM σ3 ρ3 T P q3 := by
                refine ⟨by rw [hq3]; exact g2.up f3 g3, nA.ag a b' (by decide) (by decide), nT.ag a b' (by decide) (by decide), ?_, nR.ag b' (by decide), ?_, nW.up a b' (by decide) (by decide) hle51 (q3n 32 (by omega)), nD.up b' (by decide) hle51 (fun p _ => q3n _ (by omega)), ?_, ?_, (nI'.ag b' (by decide)).q (q3n 33 (by omega)), nP.ag a b' (by decide) (by decide), nH.ag a (by decide) hhc hpc, nO.ag a b' (by decide) (by decide) hhc hpc⟩
                · intro u hu hu8
                  rw [q3n u (by omega)]
                  exact (nU.ag a b' (by decide) (by decide)) u hu hu8
                · intro u hu
                  have hT8 := nA.2.1
                  rw [q3n u (by omega)]
                  exact (nC.ag b' (by decide)) u hu
                · intro j hj
                  obtain ⟨y1, y2, y3, y4, y5, y6, y7, y8, y9, y10, y11, y12⟩ := nX j hj
                  simp only [a.at 31 (by decide), a.at 32 (by decide), a.at 33 (by decide), a.at 34 (by decide), a.at 35 (by decide), a.at 36 (by decide), a.at 37 (by decide), b'.at 31 (by decide), b'.at 32 (by decide), b'.at 33 (by decide), b'.at 34 (by decide), b'.at 35 (by decide), b'.at 36 (by decide), b'.at 38 (by decide)]
                  rw [s38, r39, r37]
                  by_cases cj : j = i
                  · rw [if_pos cj, if_pos cj, if_pos cj]
                    exact ⟨y1, y2, y3, y4, y5, y6, y7, rfl, y9, y10, Or.inr rfl, fun w => ⟨(y12 w).1, (y12 w).2.1, by rw [r51]; exact le_rf _⟩⟩
                  · rw [if_neg cj, if_neg cj, if_neg cj]
                    exact ⟨y1, y2, y3, y4, y5, y6, y7, y8, y9, y10, y11, fun w => ⟨(y12 w).1, (y12 w).2.1, le_tr (y12 w).2.2 hle51⟩⟩
                · intro u hu
                  simp only [b'.at 31 (by decide), b'.at 34 (by decide)]
                  by_cases cu : u = o
                  · subst cu
                    rw [q3s]
                    refine ⟨List.pairwise_append.mpr ⟨?_, List.pairwise_singleton _ _, fun x hx y hy => ?_⟩, fun j => ?_⟩
                    · refine List.Pairwise.imp_of_mem ?_ (List.pairwise_cons.mp v1).2
                      intro x y hx hy w
                      rw [r37, r37, if_neg (fun e : x = i => hil (e ▸ hx)), if_neg (fun e : y = i => hil (e ▸ hy))]
                      exact w
                    · rw [List.mem_singleton.mp hy, r37, r37, if_pos rfl, if_neg (fun e : x = i => hil (e ▸ hx))]
                      obtain ⟨hx8, hx0, hx34⟩ := (v2 x).mp (by rw [hq]; exact List.mem_cons_of_mem _ hx)
                      have := ((nX x hx8).2.2.2.2.2.2.2.2.2.2.2 hx0).2.2
                      rw [Int32.le_iff_toInt_le] at this
                      rw [Int32.lt_iff_toInt_lt, i51]
                      omega
                    · rw [← v2 j, hq, List.mem_append, List.mem_singleton, List.mem_cons]
                      exact Or.comm
                  · rw [q3n _ (by omega)]
                    refine ⟨?_, (nV u hu).2⟩
                    refine List.Pairwise.imp_of_mem ?_ (nV u hu).1
                    intro x y hx hy w
                    have hne : ∀ x, x ∈ q (16 + u) → x ≠ i := fun x hx e => by
                      subst e
                      have := ((nV u hu).2 x).mp hx
                      rw [h34] at this
                      exact cu ((nI_eq (by omega) (by omega)).mp this.2.2).symm
                    rw [r37, r37, if_neg (hne x hx), if_neg (hne y hy)]
                    exact w
              refine ⟨σ3, ρ3, q3, ?_, ?_, ⟨m3, (k2.s (by omega) r51 (b'.at 52 (by decide) 0 0)).mo (by omega), k3.ag b' (by decide) (fun t ht => by rw [q3n 32 (by omega)] at ht; exact ht), k4.ag b' (by decide) (q3n 33 (by omega)), k5.ag b' (by decide), k6.ag b' (by decide)⟩, ?_⟩
              · simp only [vL]
                rw [← hσ2, vB1_at e3]
              · simp only [vL]
                rw [ed_st_n (show ¬ (51 = 39 ∧ 0 = 0 ∧ 0 = i) by omega), hρ3]
              · exact ⟨a.mo (by decide), b'.mo (by decide), fun r hr => q3n r (by omega), fun u => Or.inl (b'.at 7 (by decide) 0 u)⟩
            · rw [if_neg c5, if_neg c5, vB1_at w1, vB1_at w2]
              exact ⟨σ', ρ', q', rfl, rfl, w3, w4⟩
      · rw [if_neg c2, if_neg c2]
        obtain ⟨σ', ρ', q', w1, w2, w3, w4⟩ := over 1 (ρ 35 0 i) (by omega) (by omega)
        have w1 : F_Desk_conclude i 1 (ρ 35 0 i) σ1 = some σ' := w1
        have w2 : F_Mod_over (nI i) 1 (ρ 35 0 i) ρ = some ρ' := w2
        rw [vB1_at w1, vB1_at w2]
        exact ⟨σ', ρ', q', rfl, rfl, w3, w4⟩
    · rw [if_neg c1, if_neg c1]
      obtain ⟨σ', ρ', q', w1, w2, w3, w4⟩ := over 5 0 (by omega) (by omega)
      have w1 : F_Desk_conclude i 5 0 σ1 = some σ' := w1
      have w2 : F_Mod_over (nI i) 5 0 ρ = some ρ' := w2
      rw [vB1_at w1, vB1_at w2]
      exact ⟨σ', ρ', q', rfl, rfl, w3, w4⟩
/-- a transfer is withdrawn -/
theorem s_drop {b T P i : Nat} {σ ρ : ed_S} {q : Nat → List Nat} (z : zM b σ ρ T P q) (hi : i < 8) (h0 : ρ 31 0 i = 0) (hb : b + 8 < 1000000) : ∃ σ' ρ' q' r, F_Desk_withdraw (nI i) σ = some (r, σ') ∧ F_Mod_drop (nI i) ρ = some (r, ρ') ∧ zM (b + 8) σ' ρ' T P q' ∧ fi_ σ ρ σ' ρ' q q' := by
  have z' := z
  obtain ⟨m, k2, k3, k4, k5, k6⟩ := z
  have m' := m
  obtain ⟨nQ, nA, nT, nU, nR, nC, nW, nD, nX, nV, nI', nP, nH, nO⟩ := m
  obtain ⟨x1, x2', x3, x4, x5, x6, x7, x8, x9, x10, x11, x12⟩ := nX i hi
  obtain ⟨⟨o, ho, h34⟩, h36, h37⟩ := x12 h0
  obtain ⟨v1, v2⟩ := nV o ho
  have ef : F_Mod_firstOf (nI o) ρ = some (hi_ (q (16 + o)), ρ) := m_firstOf v2 v1
  have hrow := nQ (16 + o) (by omega)
  unfold F_Desk_withdraw F_Mod_drop
  simp only [vG_at hi (show 8 < 2 ^ 31 by omega)]
  rw [x4, h34, vG_at ho (by omega), vB2_at (row_fst hrow), vB2_at ef]
  have hiq : i ∈ q (16 + o) := (v2 i).mpr ⟨hi, h0, h34⟩
  by_cases c : hi_ (q (16 + o)) = nI i
  · rw [if_pos c, if_pos c]
    obtain ⟨σ1, hσ1⟩ : ∃ w, w = ed_st σ 37 i 0 1 := ⟨_, rfl⟩
    obtain ⟨ρ1, hρ1⟩ : ∃ w, w = ed_st ρ 38 0 i 1 := ⟨_, rfl⟩
    have a : ag_ σ σ1 [37] := by rw [hσ1]; exact ag_.rf.st (by decide)
    have b' : ag_ ρ ρ1 [38] := by rw [hρ1]; exact ag_.rf.st (by decide)
    have s37 : ∀ j, σ1 37 j 0 = if j = i then 1 else σ 37 j 0 := fun j => by rw [hσ1]; simp [ed_st]
    have r38 : ∀ j, ρ1 38 0 j = if j = i then 1 else ρ 38 0 j := fun j => by rw [hρ1]; simp [ed_st]
    have hhc : ∀ o, hc_ ρ1 o = hc_ ρ o := fun o => hc_.ag b' (by decide) o
    have hpc : ∀ o, pc_ ρ1 T (q 33).length o = pc_ ρ T (q 33).length o := fun o => pc_.ag b' (by decide) (fun t _ => by rw [b'.at 7 (by decide)]) o
    refine ⟨σ1, ρ1, q, 0, ?_, ?_, ⟨⟨nQ.ag a (by decide), nA.ag a b' (by decide) (by decide), nT.ag a b' (by decide) (by decide), nU.ag a b' (by decide) (by decide), nR.ag b' (by decide), nC.ag b' (by decide), nW.ag a b' (by decide) (by decide), nD.ag b' (by decide), ?_, nV.ag b' (by decide), nI'.ag b' (by decide), nP.ag a b' (by decide) (by decide), nH.ag a (by decide) hhc hpc, nO.ag a b' (by decide) (by decide) hhc hpc⟩, (k2.ag b' (by decide)).mo (by omega), k3.ag b' (by decide) (fun _ w => w), k4.ag b' (by decide) rfl, k5.ag b' (by decide), k6.ag b' (by decide)⟩, ⟨a.mo (by decide), b'.mo (by decide), fun _ _ => rfl, fun u => Or.inl (b'.at 7 (by decide) 0 u)⟩⟩
    · simp only [vL]; rw [hσ1]
    · simp only [vL]; rw [hρ1]
    · intro j hj
      obtain ⟨y1, y2, y3, y4, y5, y6, y7, y8, y9, y10, y11, y12⟩ := nX j hj
      simp only [a.at 31 (by decide), a.at 32 (by decide), a.at 33 (by decide), a.at 34 (by decide), a.at 35 (by decide), a.at 36 (by decide), a.at 38 (by decide), b'.at 31 (by decide), b'.at 32 (by decide), b'.at 33 (by decide), b'.at 34 (by decide), b'.at 35 (by decide), b'.at 36 (by decide), b'.at 37 (by decide), b'.at 39 (by decide), b'.at 51 (by decide)]
      rw [s37, r38]
      by_cases cj : j = i
      · rw [if_pos cj, if_pos cj]
        exact ⟨y1, y2, y3, y4, y5, y6, rfl, y8, y9, Or.inr rfl, y11, y12⟩
      · rw [if_neg cj, if_neg cj]
        exact ⟨y1, y2, y3, y4, y5, y6, y7, y8, y9, y10, y11, y12⟩
  · rw [if_neg c, if_neg c]
    obtain ⟨σ1, e1, f1, g1⟩ := row_removeValue (v := i) hrow (by omega) (fun w hw => by have := ((v2 w).mp hw).1; omega)
    have a1 : ag_ σ σ1 [18, 39] := ag_.rf.fr f1 (by decide) (by decide)
    have mi : gMi σ1 ρ T P (va_up q (16 + o) ((q (16 + o)).filter (fun w => w != i))) i := gMi.rm m' ho h34 f1 g1 (fun j => by
      rw [List.mem_filter]
      simp) (v1.sublist List.filter_sublist)
    have zi : zMi b σ1 ρ T P (va_up q (16 + o) ((q (16 + o)).filter (fun w => w != i))) i := ⟨mi, k2, fun t ht => k3 t (by rw [up_n (by omega)] at ht; exact ht), k4.ag (ag_.rf (L := [])) (by decide) (up_n (by omega)), k5, k6⟩
    obtain ⟨σ', ρ', q', w1, w2, w3, w4⟩ := s_over (s := 5) (y := 0) zi hi h0 (by omega) (by omega) hb
    have w1 : F_Desk_conclude i 5 0 σ1 = some σ' := w1
    have w2 : F_Mod_over (nI i) 5 0 ρ = some ρ' := w2
    rw [vB1_at e1, vB1_at w1, vB1_at w2]
    have fi1 : fi_ σ ρ σ1 ρ q (va_up q (16 + o) ((q (16 + o)).filter (fun w => w != i))) := ⟨a1.mo (by decide), ag_.rf, fun r hr => up_n (by omega), fun _ => Or.inl rfl⟩
    exact ⟨σ', ρ', q', 1, rfl, rfl, w3, fi1.tr w4⟩
/-- the end of a call behind the end of a transfer -/
theorem fi_fin {b n : Nat} {σ ρ σ' ρ' : ed_S} {T P : Nat} {q q' : Nat → List Nat} (z : zM b σ' ρ' T P q') (f : fi_ σ ρ σ' ρ' q q') (hT : T ≤ 8) (hn : n < 512) (hb : b + 1 ≤ 1300 * (n + 1)) (hC : ∃ C, C ≤ 9 * n ∧ ρ 46 0 0 = nI C) (hl : ρ 47 0 0 = 0 → q 33 = [] ∧ na_ ρ T q) (x : Int32) : ∃ σ2 ρ2, F_Desk_lookWhoRuns σ' = some σ2 ∧ F_Mod_end x ρ' = some (x, ρ2) ∧ zS (n + 1) σ2 ρ2 := by
  obtain ⟨σ2, ρ2, l1, l2, l3, -, -⟩ := z.fin (n := n + 1) (by omega) hb (hC_up hC (f.2.1.at 46 (by decide) 0 0)) (fun w => by
    rw [f.2.1.at 47 (by decide)] at w
    obtain ⟨w1, w2⟩ := hl w
    exact ⟨by rw [f.2.2.1 33 (Or.inr rfl)]; exact w1, w2.fi hT f⟩) x
  exact ⟨σ2, ρ2, l1, l2, l3⟩
theorem c_cancel (n : Nat) (x1 : Int32) (σ ρ : ed_S) (hn : n < 512) (hS : zS n σ ρ) : jt_ (zS (n + 1)) (F_Desk_cancel x1 σ) (F_Mod_cancel x1 ρ) := by
  have hS' := hS.mo
  obtain ⟨T, P, q, z, hC, ti, hl⟩ := hS
  have m := z.1
  unfold F_Desk_cancel F_Mod_cancel
  refine jt_run m hS' (fun t p hT ht hp hr hr5 hh hh8 h0 hpr H => ?_)
  unfold F_Desk_isPending
  rw [vB2_at (d_is _ _ _ _), vB2_at (m_is _ _ _ _)]
  rcases iw_c (x := x1) (b := 7) (n := 8) (by decide) (by omega) with w | ⟨i, hi, rfl, w⟩
  · rw [if_pos w, if_pos w]
    simp only [vB2]
    rw [if_pos trivial]
    exact jt_b rfl hS'
  rw [if_neg w, if_neg w]
  simp only [vG_at hi (show 8 < 2 ^ 31 by omega)]
  rw [(m.2.2.2.2.2.2.2.2.1 i hi).1]
  by_cases c : ρ 31 0 i = 0
  · rw [if_pos c, if_pos c]
    obtain ⟨σ', ρ', q', r, e1, e2, z', f⟩ := s_drop z hi c (by omega)
    obtain ⟨σ2, ρ2, l1, l2, l3⟩ := fi_fin z' f m.2.1.2.1 hn (by omega) hC (fun w => (hl w).2) r
    rw [vB2_at e2, vB2_at l2]
    simp only [vB2]
    rw [if_neg (show ¬ (1 : Int32) = 0 by decide), e1]
    simp only []
    rw [vB1_at l1]
    exact jt_b rfl l3
  · rw [if_neg c, if_neg c]
    simp only [vB2]
    rw [if_pos trivial]
    exact jt_b rfl hS'
