/-! ===== the pure part: set ===== -/
theorem na_.re {T : Nat} {σ ρ σ' ρ' : ed_S} {q q' : Nat → List Nat} (hT : T ≤ 8) (h : re_ T σ ρ σ' ρ' q q') (n : na_ ρ T q) : na_ ρ' T q' := fun t ht w v => by
  rw [h.2.2.1 t (by omega)]
  rw [h.2.1.at 14 (by decide)] at v
  refine n t ht ?_ v
  rcases h.2.2.2 t with e | e
  · rw [← e]; exact w
  · exact e.1
/-- a release in the middle of a call -/
theorem zM.rel {b : Nat} {σ ρ : ed_S} {T P : Nat} {q : Nat → List Nat} (m : gM σ ρ T P q) (hb : bd_ ρ b) (hJ : gJ ρ q) (hK : gK ρ) (hL : gL ρ T) (hb2 : b + 8 < 1000000) : ∃ σ' ρ' q', F_Desk_release σ = some σ' ∧ F_Mod_release ρ = some ρ' ∧ zM (b + 8) σ' ρ' T P q' ∧ re_ T σ ρ σ' ρ' q q' := by
  obtain ⟨σ', ρ', q', e1, e2, m', h1, h2, h3⟩ := s_release m hb hb2
  exact ⟨σ', ρ', q', e1, e2, ⟨m', h1, h2, hJ.ag h3.2.1 (by decide) (h3.2.2.1 33 (by omega)), hK.ag h3.2.1 (by decide), hL.ag h3.2.1 (by decide)⟩, h3⟩
/-- a release, then the end of the call -/
theorem zM.relfin {b n : Nat} {σ ρ : ed_S} {T P : Nat} {q : Nat → List Nat} (m : gM σ ρ T P q) (hb : bd_ ρ b) (hJ : gJ ρ q) (hK : gK ρ) (hL : gL ρ T) (hn : n < 600) (hb2 : b + 9 ≤ 1300 * n) (hC : ∃ C, C ≤ 9 * n ∧ ρ 46 0 0 = nI C) (hl : ρ 47 0 0 = 0 → q 33 = [] ∧ na_ ρ T q) (x : Int32) : ∃ σ1 ρ1 σ' ρ', F_Desk_release σ = some σ1 ∧ F_Mod_release ρ = some ρ1 ∧ F_Desk_lookWhoRuns σ1 = some σ' ∧ F_Mod_end x ρ1 = some (x, ρ') ∧ zS n σ' ρ' := by
  obtain ⟨σ1, ρ1, q1, e1, e2, z1, h3⟩ := zM.rel m hb hJ hK hL (by omega)
  obtain ⟨σ', ρ', e3, e4, e5, -, -⟩ := z1.fin hn (by omega) (by rw [h3.2.1.at 46 (by decide)]; exact hC) (fun z => by
    rw [h3.2.1.at 47 (by decide)] at z
    obtain ⟨z1, z2⟩ := hl z
    exact ⟨by rw [h3.2.2.1 33 (by omega)]; exact z1, z2.re m.2.1.2.1 h3⟩) x
  exact ⟨σ1, ρ1, σ', ρ', e1, e2, e3, e4, e5⟩
theorem sat_mono {ρ ρ' : ed_S} {t : Nat} (h14 : ρ' 14 0 t = ρ 14 0 t) (h17 : ∀ j, ρ' 17 0 j = ρ 17 0 j) (h : ∀ j o, j < 3 → o < 16 → ρ 17 0 (3 * t + j) = nI o → sg_ ρ' o t → sg_ ρ o t) (s : sat_ ρ' t) : sat_ ρ t := by
  have sk : ∀ j, j < 3 → sk_ ρ' t j → sk_ ρ t j := fun j hj z => by
    obtain ⟨o, z1, z2, z3⟩ := z
    rw [h17] at z2
    exact ⟨o, z1, z2, h j o hj z1 z2 z3⟩
  unfold sat_ at *
  rw [h14] at s
  rcases s with ⟨z1, j, z2, z3⟩ | ⟨z1, z2⟩
  · exact Or.inl ⟨z1, j, z2, sk j z2 z3⟩
  · exact Or.inr ⟨z1, fun j hj z => sk j hj (z2 j hj (by rw [h17]; exact z))⟩
/-- one object o has changed in its value, owner, due -/
theorem gM.one {σ ρ σ' ρ' : ed_S} {T P o : Nat} {q : Nat → List Nat} (m : gM σ ρ T P q) (a : ∀ k i j, ¬ (k ∈ [26, 27, 28, 29] ∧ i = o) → σ' k i j = σ k i j) (b : ∀ k i j, ¬ (k ∈ [20, 21, 24, 25, 26] ∧ j = o) → ρ' k i j = ρ k i j) (ho : ob_ σ' ρ' o) : gM σ' ρ' T P q ∧ ag_ σ σ' [26, 27, 28, 29] ∧ ag_ ρ ρ' [20, 21, 24, 25, 26] ∧ (∀ u t, u ≠ o → (sg_ ρ' u t ↔ sg_ ρ u t)) := by
  have hA : ag_ σ σ' [26, 27, 28, 29] := fun k i j hk => a k i j (fun z => hk z.1)
  have hB : ag_ ρ ρ' [20, 21, 24, 25, 26] := fun k i j hk => b k i j (fun z => hk z.1)
  have rne : ∀ k u, u ≠ o → ρ' k 0 u = ρ k 0 u := fun k u hu => b k 0 u (fun z => hu z.2)
  have sne : ∀ k u j, u ≠ o → σ' k u j = σ k u j := fun k u j hu => a k u j (fun z => hu z.2)
  refine ⟨m.ob (hA.mo (by decide)) (hB.mo (by decide)) (fun u hu _ hou => ?_), hA, hB, fun u t hu => ?_⟩
  · by_cases c : u = o
    · subst c; exact ho
    · unfold ob_ at *
      simp only [rne _ u c, sne _ u _ c, hB.at 28 (by decide), hB.at 29 (by decide), hB.at 30 (by decide)]
      exact hou
  · unfold sg_
    simp only [rne _ u hu]
/-- the class looks, the reference does not: nothing changes -/
theorem zS.look {n : Nat} {σ ρ : ed_S} (h : zS n σ ρ) : F_Desk_lookWhoRuns σ = some σ := by
  obtain ⟨T, P, q, z, -, -, hl⟩ := h
  exact (look_nop z.1 (fun w => (hl w).1)).1
theorem ed_a1 {σ : ed_S} {k1 o : Nat} {v : Int32} {L : List Nat} (hk : k1 ∈ L) : ∀ k i j, ¬ (k ∈ L ∧ i = o) → ed_st σ k1 o 0 v k i j = σ k i j := fun k i j hn => ed_st_n (fun z => hn ⟨z.1 ▸ hk, z.2.1⟩)
theorem ed_b1 {σ : ed_S} {k1 o : Nat} {v : Int32} {L : List Nat} (hk : k1 ∈ L) : ∀ k i j, ¬ (k ∈ L ∧ j = o) → ed_st σ k1 0 o v k i j = σ k i j := fun k i j hn => ed_st_n (fun z => hn ⟨z.1 ▸ hk, z.2.2⟩)
theorem ed_a2 {σ : ed_S} {k1 k2 o : Nat} {v w : Int32} {L : List Nat} (hk : k1 ∈ L) (hk2 : k2 ∈ L) : ∀ k i j, ¬ (k ∈ L ∧ i = o) → ed_st (ed_st σ k1 o 0 v) k2 o 0 w k i j = σ k i j := fun k i j hn => by rw [ed_a1 hk2 k i j hn, ed_a1 hk k i j hn]
theorem ed_b2 {σ : ed_S} {k1 k2 o : Nat} {v w : Int32} {L : List Nat} (hk : k1 ∈ L) (hk2 : k2 ∈ L) : ∀ k i j, ¬ (k ∈ L ∧ j = o) → ed_st (ed_st σ k1 0 o v) k2 0 o w k i j = σ k i j := fun k i j hn => by rw [ed_b1 hk2 k i j hn, ed_b1 hk k i j hn]
theorem set_fin {n : Nat} {ρ σ1 ρ1 : ed_S} {T P : Nat} {q : Nat → List Nat} (hn : n < 512) (m1 : gM σ1 ρ1 T P q) (hB : ag_ ρ ρ1 [20, 21, 24, 25, 26]) (hb : bd_ ρ (1300 * n)) (hJ : gJ ρ q) (hK : gK ρ) (hL : gL ρ T) (hC : ∃ C, C ≤ 9 * n ∧ ρ 46 0 0 = nI C) (hl : ρ 47 0 0 = 0 → lk_ ρ T q ∧ q 33 = [] ∧ na_ ρ T q) (x : Int32) : (∃ σ2 ρ2 σ3 ρ3, F_Desk_release σ1 = some σ2 ∧ F_Mod_release ρ1 = some ρ2 ∧ F_Desk_lookWhoRuns σ2 = some σ3 ∧ F_Mod_end x ρ2 = some (x, ρ3) ∧ zS (n + 1) σ3 ρ3) ∧ (qu_ ρ1 q → ∃ σ3 ρ3, F_Desk_lookWhoRuns σ1 = some σ3 ∧ F_Mod_end x ρ1 = some (x, ρ3) ∧ zS (n + 1) σ3 ρ3) := by
  have hC' := hC_up hC (hB.at 46 (by decide) 0 0)
  have hl' : ρ1 47 0 0 = 0 → q 33 = [] ∧ na_ ρ1 T q := fun z => by
    rw [hB.at 47 (by decide)] at z
    obtain ⟨z1, z2, z3⟩ := hl z
    exact ⟨z2, z3.ag hB (by decide)⟩
  have hb' := hb.ag hB (by decide)
  have hJ' := hJ.ag hB (by decide) (rfl : q 33 = q 33)
  have hK' := hK.ag hB (by decide)
  have hL' := hL.ag hB (by decide)
  refine ⟨zM.relfin m1 hb' hJ' hK' hL' (by omega) (by omega) hC' hl' x, fun hu => ?_⟩
  have z : zM (1300 * n) σ1 ρ1 T P q := ⟨m1, hb', hu, hJ', hK', hL'⟩
  obtain ⟨σ', ρ', e3, e4, e5, -, -⟩ := z.fin (n := n + 1) (by omega) (by omega) hC' hl' x
  exact ⟨σ', ρ', e3, e4, e5⟩
theorem s_turnTo {n o : Nat} {x2 : Int32} {σ ρ : ed_S} {T P : Nat} {q : Nat → List Nat} (hn : n < 512) (m : gM σ ρ T P q) (hb : bd_ ρ (1300 * n)) (hqu : qu_ ρ q) (hJ : gJ ρ q) (hK : gK ρ) (hL : gL ρ T) (hC : ∃ C, C ≤ 9 * n ∧ ρ 46 0 0 = nI C) (hl : ρ 47 0 0 = 0 → lk_ ρ T q ∧ q 33 = [] ∧ na_ ρ T q) (ho : o < 16) (hob : ob_ σ ρ o) (hty : ρ 22 0 o = 0 ∨ ρ 22 0 o = 1) (hx : x2 = 0 ∨ x2 = 1) : jt_ (zS (n + 1)) (vB2 (F_Desk_turnTo o x2 σ) fun r28 σ26 => vB1 (F_Desk_lookWhoRuns σ26) fun σ29 => some (r28, σ29)) (if x2 = 1 then (vL (ed_st ρ 20 0 o 1) fun σ89 => vB1 (F_Mod_release σ89) fun σ95 => F_Mod_end (ρ 20 0 o) σ95) else (vL (ed_st ρ 20 0 o 0) fun σ74 => F_Mod_end (ρ 20 0 o) σ74)) := by
  have hob' := hob
  obtain ⟨o1, o2, o3, o4, o5, o6, o7, o8, o9, o10, o11, o12, o13, o14, o15⟩ := hob
  have ne2 : ¬ ρ 22 0 o = 2 := fun z => by rcases hty with w | w <;> (rw [w] at z; exact absurd z (by decide))
  have ne3 : ¬ ρ 22 0 o = 3 := fun z => by rcases hty with w | w <;> (rw [w] at z; exact absurd z (by decide))
  have ne5 : ¬ ρ 22 0 o = 5 := fun z => by rcases hty with w | w <;> (rw [w] at z; exact absurd z (by decide))
  have h26 : σ 26 o 0 = ρ 20 0 o := o11 (hty.elim Or.inl (fun w => Or.inr (Or.inl w)))
  obtain ⟨σ1, hσ1⟩ : ∃ z, z = ed_st σ 26 o 0 x2 := ⟨_, rfl⟩
  obtain ⟨ρ1, hρ1⟩ : ∃ z, z = ed_st ρ 20 0 o x2 := ⟨_, rfl⟩
  have hA1 : ag_ σ σ1 [26, 27, 28] := by rw [hσ1]; exact ag_.rf.st (by decide)
  have hB1 : ag_ ρ ρ1 [20, 21, 24, 25] := by rw [hρ1]; exact ag_.rf.st (by decide)
  have s26 : σ1 26 o 0 = x2 := by rw [hσ1, ed_st_s]
  have r20 : ρ1 20 0 o = x2 := by rw [hρ1, ed_st_s]
  have ob1 : ob_ σ1 ρ1 o := by
    refine hob'.put hA1 hB1 ?_ ?_ ?_ ?_ ?_ ?_ ?_ ?_ ?_
    · rw [hσ1, hρ1, ed_st_n (by omega), ed_st_n (by omega)]; exact o4
    · rw [hρ1, ed_st_n (by omega)]; exact o5
    · rw [hσ1, hρ1, ed_st_n (by omega), ed_st_n (by omega)]; exact o6
    · rw [hρ1, ed_st_n (by omega)]; exact o7
    · rw [hρ1, ed_st_n (by omega)]; exact o8
    · rw [r20]; exact hx
    · intro w
      rcases w with w | w | w
      · exact absurd w ne2
      · exact absurd w ne3
      · exact absurd w ne5
    · intro _
      rw [s26, r20]
    · intro w
      exact absurd w ne2
  obtain ⟨m1, hA, hB, hsg⟩ := m.one (σ' := σ1) (ρ' := ρ1) (by rw [hσ1]; exact ed_a1 (by decide)) (by rw [hρ1]; exact ed_b1 (by decide)) ob1
  obtain ⟨f1, f2⟩ := set_fin hn m1 hB hb hJ hK hL hC hl (ρ 20 0 o)
  unfold F_Desk_turnTo
  simp only [vL]
  rcases hx with hx | hx
  · have hu : qu_ ρ1 q := fun t ht s => hqu t ht (sat_mono (hB.at 14 (by decide) 0 t) (fun j => hB.at 17 (by decide) 0 j) (fun j u _ _ _ w => by
      by_cases c : u = o
      · subst c
        rcases w with w | w | w
        · rw [hB.at 22 (by decide)] at w; exact absurd w.1 ne3
        · rw [hB.at 22 (by decide)] at w; exact absurd w.1 ne2
        · rw [r20, hx] at w; exact absurd w.2.2 (by decide)
      · exact (hsg u t c).mp w) s)
    obtain ⟨σ3, ρ3, k1, k2, k3⟩ := f2 hu
    subst hx
    rw [if_neg (show ¬ (0 : Int32) = 1 by decide), if_neg (show ¬ (0 : Int32) = 1 by decide), ← hσ1, ← hρ1, k2]
    simp only [vB2]
    rw [vB1_at k1]
    exact jt_b h26 k3
  · obtain ⟨σ2, ρ2, σ3, ρ3, k1, k2, k3, k4, k5⟩ := f1
    subst hx
    rw [if_pos rfl, if_pos rfl, ← hσ1, ← hρ1, vB1_at k1, vB1_at k2, k4]
    simp only [vB2]
    rw [vB1_at k3]
    exact jt_b h26 k5
theorem s_raise {n o x : Nat} {σ ρ : ed_S} {T P : Nat} {q : Nat → List Nat} (hn : n < 512) (hS' : zS (n + 1) σ ρ) (m : gM σ ρ T P q) (hb : bd_ ρ (1300 * n)) (hqu : qu_ ρ q) (hJ : gJ ρ q) (hK : gK ρ) (hL : gL ρ T) (hC : ∃ C, C ≤ 9 * n ∧ ρ 46 0 0 = nI C) (hl : ρ 47 0 0 = 0 → lk_ ρ T q ∧ q 33 = [] ∧ na_ ρ T q) (ho : o < 16) (hob : ob_ σ ρ o) (hty : ρ 22 0 o = 3) (hx : x < 10) : jt_ (zS (n + 1)) (vB2 (F_Desk_raiseCount o (nI x) σ) fun r28 σ26 => vB1 (F_Desk_lookWhoRuns σ26) fun σ29 => some (r28, σ29)) (if (ρ 24 0 o + nI x) ≤ 9 then (vL (ed_st ρ 24 0 o (ρ 24 0 o + nI x)) fun σ89 => vB1 (F_Mod_release σ89) fun σ95 => F_Mod_end (ρ 24 0 o) σ95) else some (-8, ρ)) := by
  have hob' := hob
  obtain ⟨o1, o2, o3, o4, o5, o6, o7, o8, o9, o10, o11, o12, o13, o14, o15⟩ := hob
  obtain ⟨h26, c, hc, h24⟩ := o10 (Or.inr (Or.inl hty))
  unfold F_Desk_raiseCount
  rw [h26, h24, nI_add]
  by_cases cc : c + x ≤ 9
  · rw [if_pos (show nI (c + x) ≤ 9 from nI_le (b := 9) cc (by omega)), if_pos (show nI (c + x) ≤ 9 from nI_le (b := 9) cc (by omega))]
    obtain ⟨σ1, hσ1⟩ : ∃ z, z = ed_st σ 26 o 0 (nI (c + x)) := ⟨_, rfl⟩
    obtain ⟨ρ1, hρ1⟩ : ∃ z, z = ed_st ρ 24 0 o (nI (c + x)) := ⟨_, rfl⟩
    have hA1 : ag_ σ σ1 [26, 27, 28] := by rw [hσ1]; exact ag_.rf.st (by decide)
    have hB1 : ag_ ρ ρ1 [20, 21, 24, 25] := by rw [hρ1]; exact ag_.rf.st (by decide)
    have s26 : σ1 26 o 0 = nI (c + x) := by rw [hσ1, ed_st_s]
    have r24 : ρ1 24 0 o = nI (c + x) := by rw [hρ1, ed_st_s]
    have ob1 : ob_ σ1 ρ1 o := by
      refine hob'.put hA1 hB1 ?_ ?_ ?_ ?_ ?_ ?_ ?_ ?_ ?_
      · rw [hσ1, hρ1, ed_st_n (by omega), ed_st_n (by omega)]; exact o4
      · rw [hρ1, ed_st_n (by omega)]; exact o5
      · rw [hσ1, hρ1, ed_st_n (by omega), ed_st_n (by omega)]; exact o6
      · rw [hρ1, ed_st_n (by omega)]; exact o7
      · rw [hρ1, ed_st_n (by omega)]; exact o8
      · rw [hρ1, ed_st_n (by omega)]; exact o9
      · intro _
        rw [s26, r24]
        exact ⟨rfl, c + x, by omega, rfl⟩
      · intro w
        rw [hty] at w
        rcases w with w | w | w <;> exact absurd w (by decide)
      · intro w
        rw [hty] at w
        exact absurd w (by decide)
    obtain ⟨m1, hA, hB, hsg⟩ := m.one (σ' := σ1) (ρ' := ρ1) (by rw [hσ1]; exact ed_a1 (by decide)) (by rw [hρ1]; exact ed_b1 (by decide)) ob1
    obtain ⟨f1, -⟩ := set_fin hn m1 hB hb hJ hK hL hC hl (nI c)
    obtain ⟨σ2, ρ2, σ3, ρ3, k1, k2, k3, k4, k5⟩ := f1
    simp only [vL]
    rw [← hσ1, ← hρ1, vB1_at k1, vB1_at k2, k4]
    simp only [vB2]
    rw [vB1_at k3]
    exact jt_b rfl k5
  · rw [if_neg (show ¬ nI (c + x) ≤ 9 from nI_ge (a := 9) (by omega) (by omega)), if_neg (show ¬ nI (c + x) ≤ 9 from nI_ge (a := 9) (by omega) (by omega))]
    simp only [vB2]
    rw [vB1_at hS'.look]
    exact jt_b rfl hS'
theorem s_timer {n o x : Nat} {σ ρ : ed_S} {T P : Nat} {q : Nat → List Nat} (hn : n < 512) (m : gM σ ρ T P q) (hb : bd_ ρ (1300 * n)) (hqu : qu_ ρ q) (hJ : gJ ρ q) (hK : gK ρ) (hL : gL ρ T) (hC : ∃ C, C ≤ 9 * n ∧ ρ 46 0 0 = nI C) (hl : ρ 47 0 0 = 0 → lk_ ρ T q ∧ q 33 = [] ∧ na_ ρ T q) (ho : o < 16) (hob : ob_ σ ρ o) (hty : ρ 22 0 o = 4) (hx : x < 100) : jt_ (zS (n + 1)) (vB2 (F_Desk_startTimer o (nI x) σ) fun r28 σ26 => vB1 (F_Desk_lookWhoRuns σ26) fun σ29 => some (r28, σ29)) (vL (ed_st ρ 20 0 o 0) fun σ33 => (if nI x = 0 then (vL (ed_st σ33 26 0 o 0) fun σ49 => F_Mod_end (ρ 20 0 o) σ49) else (vL (ed_st σ33 26 0 o ((σ33 46 0 0) + nI x)) fun σ40 => F_Mod_end (ρ 20 0 o) σ40))) := by
  have hob' := hob
  obtain ⟨o1, o2, o3, o4, o5, o6, o7, o8, o9, o10, o11, o12, o13, o14, o15⟩ := hob
  have h26 : σ 26 o 0 = ρ 20 0 o := o11 (Or.inr (Or.inr hty))
  have key : ∀ v w : Int32, ((v = -1 ∧ w = 0) ∨ (v = w ∧ 0 < w)) → ∃ σ3 ρ3, F_Desk_lookWhoRuns (ed_st (ed_st σ 26 o 0 0) 29 o 0 v) = some σ3 ∧ F_Mod_end (ρ 20 0 o) (ed_st (ed_st ρ 20 0 o 0) 26 0 o w) = some (ρ 20 0 o, ρ3) ∧ zS (n + 1) σ3 ρ3 := fun v w hvw => by
    obtain ⟨σ1, hσ1⟩ : ∃ z, z = ed_st (ed_st σ 26 o 0 0) 29 o 0 v := ⟨_, rfl⟩
    obtain ⟨ρ1, hρ1⟩ : ∃ z, z = ed_st (ed_st ρ 20 0 o 0) 26 0 o w := ⟨_, rfl⟩
    have hA1 : ag_ σ σ1 [26, 29] := by rw [hσ1]; exact (ag_.rf.st (by decide)).st (by decide)
    have hB1 : ag_ ρ ρ1 [20, 26] := by rw [hρ1]; exact (ag_.rf.st (by decide)).st (by decide)
    have s26 : σ1 26 o 0 = 0 := by rw [hσ1, ed_st_n (by omega), ed_st_s]
    have r20 : ρ1 20 0 o = 0 := by rw [hρ1, ed_st_n (by omega), ed_st_s]
    have s29 : σ1 29 o 0 = v := by rw [hσ1, ed_st_s]
    have r26 : ρ1 26 0 o = w := by rw [hρ1, ed_st_s]
    have ob1 : ob_ σ1 ρ1 o := by
      unfold ob_
      rw [s26, r20, s29, r26]
      simp only [hA1.at 22 (by decide), hA1.at 27 (by decide), hA1.at 28 (by decide), hA1.at 30 (by decide), hA1.at 43 (by decide), hA1.at 44 (by decide), hA1.at 45 (by decide), hB1.at 19 (by decide), hB1.at 21 (by decide), hB1.at 22 (by decide), hB1.at 24 (by decide), hB1.at 25 (by decide), hB1.at 27 (by decide), hB1.at 28 (by decide), hB1.at 29 (by decide), hB1.at 30 (by decide)]
      refine ⟨o1, o2, o3, o4, o5, o6, o7, o8, Or.inl trivial, fun z => ?_, fun _ => trivial, fun _ => hvw, o13, o14, o15⟩
      rw [hty] at z
      rcases z with z | z | z <;> exact absurd z (by decide)
    obtain ⟨m1, hA, hB, hsg⟩ := m.one (σ' := σ1) (ρ' := ρ1) (by rw [hσ1]; exact ed_a2 (by decide) (by decide)) (by rw [hρ1]; exact ed_b2 (by decide) (by decide)) ob1
    obtain ⟨-, f2⟩ := set_fin hn m1 hB hb hJ hK hL hC hl (ρ 20 0 o)
    have hu : qu_ ρ1 q := fun t ht s => hqu t ht (sat_mono (hB.at 14 (by decide) 0 t) (fun j => hB.at 17 (by decide) 0 j) (fun j u _ _ _ w => by
      by_cases c : u = o
      · subst c
        rcases w with w | w | w
        · rw [hB.at 22 (by decide), hty] at w; exact absurd w.1 (by decide)
        · rw [hB.at 22 (by decide), hty] at w; exact absurd w.1 (by decide)
        · rw [r20] at w; exact absurd w.2.2 (by decide)
      · exact (hsg u t c).mp w) s)
    rw [← hσ1, ← hρ1]
    exact f2 hu
  unfold F_Desk_startTimer
  simp only [vL]
  rw [show ed_st σ 26 o 0 0 3 0 0 = σ 3 0 0 from ed_st_n (by omega), show ed_st ρ 20 0 o 0 46 0 0 = ρ 46 0 0 from ed_st_n (by omega)]
  by_cases c : x = 0
  · subst c
    obtain ⟨σ3, ρ3, k1, k2, k3⟩ := key (-1) 0 (Or.inl ⟨rfl, rfl⟩)
    rw [if_pos (show nI 0 = 0 from rfl), if_pos (show nI 0 = 0 from rfl), k2]
    simp only [vB2]
    rw [vB1_at k1]
    exact jt_b h26 k3
  · obtain ⟨C, hC1, hC2⟩ := hC
    have a8 := m.2.1.2.2.2.2.2.2.2.1
    have h0 : 0 < nI (C + x) := lt_of_nle (nI_nle (by omega) (by omega))
    obtain ⟨σ3, ρ3, k1, k2, k3⟩ := key (nI (C + x)) (nI (C + x)) (Or.inr ⟨rfl, h0⟩)
    rw [if_neg (show ¬ nI x = 0 from nI_ne0 (by omega) (by omega)), if_neg (show ¬ nI x = 0 from nI_ne0 (by omega) (by omega)), a8, hC2, nI_add, k2]
    simp only [vB2]
    rw [vB1_at k1]
    exact jt_b h26 k3
theorem s_back {n o t : Nat} {σ ρ : ed_S} {T P : Nat} {q : Nat → List Nat} (hn : n < 512) (hS' : zS (n + 1) σ ρ) (m : gM σ ρ T P q) (hb : bd_ ρ (1300 * n)) (hqu : qu_ ρ q) (hJ : gJ ρ q) (hK : gK ρ) (hL : gL ρ T) (hC : ∃ C, C ≤ 9 * n ∧ ρ 46 0 0 = nI C) (hl : ρ 47 0 0 = 0 → lk_ ρ T q ∧ q 33 = [] ∧ na_ ρ T q) (ho : o < 16) (hob : ob_ σ ρ o) (hty : ρ 22 0 o = 2) (ht : t < 8) (htT : t < T) (h5 : σ 5 0 0 = nI t) (h44 : ρ 44 0 0 = nI t) (h70 : ρ 7 0 t = 0) : jt_ (zS (n + 1)) (vB2 (F_Desk_giveBack o σ) fun r28 σ26 => vB1 (F_Desk_lookWhoRuns σ26) fun σ29 => some (r28, σ29)) (if ρ 25 0 o = ρ 44 0 0 then (vL (ed_st ρ 24 0 o (ρ 24 0 o - 1)) fun σ12 => (if ρ 24 0 o = 1 then (vL (ed_st σ12 25 0 o (-1)) fun σ22 => (vB1 (F_Mod_release σ22) fun σ24 => F_Mod_end (ρ 24 0 o - 1) σ24)) else F_Mod_end (ρ 24 0 o - 1) σ12)) else some (-9, ρ)) := by
  have hob' := hob
  obtain ⟨o1, o2, o3, o4, o5, o6, o7, o8, o9, o10, o11, o12, o13, o14, o15⟩ := hob
  obtain ⟨h26, c, hc, h24⟩ := o10 (Or.inl hty)
  unfold F_Desk_giveBack
  rw [o4, h5, h44]
  by_cases cc : ρ 25 0 o = nI t
  · rw [if_pos cc, if_pos cc]
    have hc0 : c ≠ 0 := fun z => by
      have := (o15 hty).mpr (by rw [h24, z]; rfl)
      rw [cc] at this
      exact nI_m1 (by omega) this
    obtain ⟨d, rfl⟩ : ∃ d, c = d + 1 := ⟨c - 1, by omega⟩
    simp only [vL]
    rw [ed_st_s, h26, h24, nI_pred]
    have hA0 : ag_ σ (ed_st σ 26 o 0 (nI d)) [26, 27, 28] := ag_.rf.st (by decide)
    have hB0 : ag_ ρ (ed_st ρ 24 0 o (nI d)) [20, 21, 24, 25] := ag_.rf.st (by decide)
    by_cases cd : d = 0
    · subst cd
      rw [if_pos (show nI 0 = 0 from rfl), if_pos (show nI (0 + 1) = 1 from rfl)]
      obtain ⟨σ1, hσ1⟩ : ∃ z, z = ed_st (ed_st σ 26 o 0 (nI 0)) 27 o 0 (-1) := ⟨_, rfl⟩
      obtain ⟨ρ1, hρ1⟩ : ∃ z, z = ed_st (ed_st ρ 24 0 o (nI 0)) 25 0 o (-1) := ⟨_, rfl⟩
      rw [← hσ1, ← hρ1]
      have hA1 : ag_ σ σ1 [26, 27, 28] := by rw [hσ1]; exact hA0.st (by decide)
      have hB1 : ag_ ρ ρ1 [20, 21, 24, 25] := by rw [hρ1]; exact hB0.st (by decide)
      have s27 : σ1 27 o 0 = -1 := by rw [hσ1, ed_st_s]
      have s26 : σ1 26 o 0 = nI 0 := by rw [hσ1, ed_st_n (by omega), ed_st_s]
      have r25 : ρ1 25 0 o = -1 := by rw [hρ1, ed_st_s]
      have r24 : ρ1 24 0 o = nI 0 := by rw [hρ1, ed_st_n (by omega), ed_st_s]
      have ob1 : ob_ σ1 ρ1 o := by
        refine hob'.put hA1 hB1 ?_ ?_ ?_ ?_ ?_ ?_ ?_ ?_ ?_
        · rw [s27, r25]
        · rw [r25]; exact Or.inl rfl
        · rw [hσ1, hρ1, ed_st_n (by omega), ed_st_n (by omega), ed_st_n (by omega), ed_st_n (by omega)]; exact o6
        · rw [hρ1, ed_st_n (by omega), ed_st_n (by omega)]; exact o7
        · rw [hρ1, ed_st_n (by omega), ed_st_n (by omega)]; exact o8
        · rw [hρ1, ed_st_n (by omega), ed_st_n (by omega)]; exact o9
        · intro _
          rw [s26, r24]
          exact ⟨rfl, 0, by omega, rfl⟩
        · intro w
          rw [hty] at w
          rcases w with w | w | w <;> exact absurd w (by decide)
        · intro _
          rw [r25, r24]
          exact ⟨fun _ => rfl, fun _ => rfl⟩
      obtain ⟨m1, hA, hB, hsg⟩ := m.one (σ' := σ1) (ρ' := ρ1) (by rw [hσ1]; exact ed_a2 (by decide) (by decide)) (by rw [hρ1]; exact ed_b2 (by decide) (by decide)) ob1
      obtain ⟨f1, -⟩ := set_fin hn m1 hB hb hJ hK hL hC hl (nI 0)
      obtain ⟨σ2, ρ2, σ3, ρ3, k1, k2, k3, k4, k5⟩ := f1
      rw [vB1_at k1, vB1_at k2, k4]
      simp only [vB2]
      rw [vB1_at k3]
      exact jt_b rfl k5
    · rw [if_neg (show ¬ nI d = 0 from nI_ne0 (by omega) (by omega)), if_neg (show ¬ nI (d + 1) = 1 from fun z => cd (by have := (nI_eq (a := d + 1) (b := 1) (by omega) (by omega)).mp z; omega))]
      obtain ⟨σ1, hσ1⟩ : ∃ z, z = ed_st σ 26 o 0 (nI d) := ⟨_, rfl⟩
      obtain ⟨ρ1, hρ1⟩ : ∃ z, z = ed_st ρ 24 0 o (nI d) := ⟨_, rfl⟩
      rw [← hσ1] at hA0
      rw [← hρ1] at hB0
      rw [← hσ1, ← hρ1]
      have s26 : σ1 26 o 0 = nI d := by rw [hσ1, ed_st_s]
      have r24 : ρ1 24 0 o = nI d := by rw [hρ1, ed_st_s]
      have r25 : ρ1 25 0 o = nI t := by rw [hρ1, ed_st_n (by omega)]; exact cc
      have ob1 : ob_ σ1 ρ1 o := by
        refine hob'.put hA0 hB0 ?_ ?_ ?_ ?_ ?_ ?_ ?_ ?_ ?_
        · rw [hσ1, hρ1, ed_st_n (by omega), ed_st_n (by omega)]; exact o4
        · rw [hρ1, ed_st_n (by omega)]; exact o5
        · rw [hσ1, hρ1, ed_st_n (by omega), ed_st_n (by omega)]; exact o6
        · rw [hρ1, ed_st_n (by omega)]; exact o7
        · rw [hρ1, ed_st_n (by omega)]; exact o8
        · rw [hρ1, ed_st_n (by omega)]; exact o9
        · intro _
          rw [s26, r24]
          exact ⟨rfl, d, by omega, rfl⟩
        · intro w
          rw [hty] at w
          rcases w with w | w | w <;> exact absurd w (by decide)
        · intro _
          rw [r25, r24]
          exact ⟨fun w => absurd w (nI_m1 (by omega)), fun w => absurd w (nI_ne0 (by omega) (by omega))⟩
      obtain ⟨m1, hA, hB, hsg⟩ := m.one (σ' := σ1) (ρ' := ρ1) (by rw [hσ1]; exact ed_a1 (by decide)) (by rw [hρ1]; exact ed_b1 (by decide)) ob1
      obtain ⟨-, f2⟩ := set_fin hn m1 hB hb hJ hK hL hC hl (nI d)
      have hu : qu_ ρ1 q := fun u hu s => hqu u hu (sat_mono (hB.at 14 (by decide) 0 u) (fun j => hB.at 17 (by decide) 0 j) (fun j v _ _ _ w => by
        by_cases c : v = o
        · subst c
          rcases w with w | w | w
          · rw [hB.at 22 (by decide), hty] at w; exact absurd w.1 (by decide)
          · rcases w.2 with w | w
            · rw [r25] at w; exact absurd w (nI_pos (by omega))
            · have hw := (m.2.2.2.2.2.2.1.2.1 u).mp hu
              have hT8 := m.2.1.2.1
              rw [r25] at w
              have := (nI_eq (by omega) (by omega)).mp w.1
              subst this
              rw [h70] at hw
              exact absurd hw.2 (by decide)
          · rw [hB.at 22 (by decide), hty] at w; exact absurd rfl w.2.1
        · exact (hsg v u c).mp w) s)
      obtain ⟨σ3, ρ3, k1, k2, k3⟩ := f2 hu
      rw [k2]
      simp only [vB2]
      rw [vB1_at k1]
      exact jt_b rfl k3
  · rw [if_neg cc, if_neg cc]
    simp only [vB2]
    rw [vB1_at hS'.look]
    exact jt_b rfl hS'
theorem vB2_eta (o : Option (Int32 × ed_S)) : (vB2 o fun r σ => some (r, σ)) = o := by
  cases o with
  | none => rfl
  | some z => rfl
theorem c_sett (n : Nat) (x1 x2 : Int32) (σ ρ : ed_S) (hn : n < 512) (hS : zS n σ ρ) : jt_ (zS (n + 1)) (F_Desk_sett x1 x2 σ) (F_Mod_sett x1 x2 ρ) := by
  have hS' := hS.mo
  obtain ⟨T, P, q, ⟨m, hb, hqu, hJ, hK, hL⟩, hC, ti, hl⟩ := hS
  unfold F_Desk_sett F_Mod_sett
  refine jt_run m hS' (fun t p hT ht hp hr hr5 hh hh8 h0 hpr H => ?_)
  rw [vBr_at hpr hp]
  rcases h_of hp ht hr hh H x1 with ⟨e1, e2⟩ | ⟨h, o, hh8, ho, rfl, h41, h3, e1, e2, e3, e4⟩
  · rw [vB2_at e1, vB2_at e2, if_pos rfl, if_pos rfl]
    exact jt_b rfl hS'
  rw [vB2_at e1, vB2_at e2, if_neg (nI_m1 (by omega)), if_neg (by decide), vB2_at e3]
  simp only [vG_at ho (show 16 < 2 ^ 31 by omega)]
  have hob := (m.2.2.2.2.2.2.2.2.2.2.2.2.2.2 o ho (hc_th (T := T) (q := q) (show 8 * p + h < 32 by omega) h3).2).1
  have hob' := hob
  obtain ⟨o1, o2, o3, o4, o5, o6, o7, o8, o9, o10, o11, o12, o13, o14, o15⟩ := hob
  have e20 : ∀ x, (if ρ 20 0 o = 0 then (F_Mod_sett_48 (nI h) x2 (nI o) x 0 ρ) else (F_Mod_sett_48 (nI h) x2 (nI o) x 1 ρ)) = F_Mod_sett_48 (nI h) x2 (nI o) x (ρ 20 0 o) ρ := fun x => by
    rcases o9 with z | z
    · rw [if_pos z, z]
    · rw [if_neg (by rw [z]; decide), z]
  rw [e20]
  obtain ⟨y, hy, f1, f2⟩ := e4 2
  unfold F_Mod_sett_48
  rw [vG_at ho (by omega)]
  have e176 : F_Mod_sett_124 (nI h) x2 (nI o) (ρ 22 0 o) (ρ 20 0 o) (ρ 24 0 o) ρ = if y = 0 then (if ρ 22 0 o = 3 then (if (ρ 24 0 o + x2) ≤ 9 then (if ρ 22 0 o = 2 then (if (ρ 25 0 o) = (ρ 44 0 0) then (F_Mod_sett_176 (nI h) x2 (nI o) (ρ 22 0 o) (ρ 20 0 o) (ρ 24 0 o) ρ) else (some ((-9), ρ))) else (F_Mod_sett_176 (nI h) x2 (nI o) (ρ 22 0 o) (ρ 20 0 o) (ρ 24 0 o) ρ)) else (some ((-8), ρ))) else (if ρ 22 0 o = 2 then (if (ρ 25 0 o) = (ρ 44 0 0) then (F_Mod_sett_176 (nI h) x2 (nI o) (ρ 22 0 o) (ρ 20 0 o) (ρ 24 0 o) ρ) else (some ((-9), ρ))) else (F_Mod_sett_176 (nI h) x2 (nI o) (ρ 22 0 o) (ρ 20 0 o) (ρ 24 0 o) ρ))) else (some ((-5), ρ)) := by
    unfold F_Mod_sett_124
    rw [vB2_at f2]
    simp only [vG_at ho (show 16 < 2 ^ 31 by omega)]
  have is01 : ∀ (x a b : Int32) (σ : ed_S), (vB2 (F_Desk_isWithin x a b σ) fun r4 σ2 => (vC (r4 = 0 ∨ r4 = 1) (some (r4, σ2)))) = some (iw_ x a b, σ) := fun x a b σ => by
    rw [vB2_at (d_is _ _ _ _), vC_at (iw_01 _ _ _)]
  unfold F_Desk_canBeSetTo
  rw [o2]
  rcases ty_ o3 with e | e | e | e | e | e
  · -- an event
    rw [if_pos e, is01]
    simp only [vB2]
    rw [if_neg (show ¬ ρ 22 0 o = 5 by rw [e]; decide), if_neg (show ¬ (2 : Int32) ≤ ρ 22 0 o by rw [e]; decide), m_is]
    simp only []
    refine jt_if Iff.rfl (fun _ => jt_b rfl hS') (fun w => ?_)
    unfold F_Mod_sett_90
    rw [if_neg (show ¬ ρ 22 0 o = 2 by rw [e]; decide), if_neg (show ¬ ρ 22 0 o = 3 by rw [e]; decide), if_neg (show ¬ ρ 22 0 o = 4 by rw [e]; decide), e176, f1]
    simp only []
    refine jt_if Iff.rfl (fun _ => ?_) (fun _ => jt_b rfl hS')
    rw [if_neg (show ¬ ρ 22 0 o = 3 by rw [e]; decide), if_neg (show ¬ ρ 22 0 o = 2 by rw [e]; decide)]
    obtain ⟨j, hj, rfl⟩ := iw_nI (n := 2) (by decide) (by omega) w
    have hx : nI j = 0 ∨ nI j = 1 := by
      have : j = 0 ∨ j = 1 := by omega
      rcases this with rfl | rfl
      · exact Or.inl rfl
      · exact Or.inr rfl
    have key := s_turnTo hn m hb hqu hJ hK hL hC hl ho hob' (Or.inl e) hx
    unfold F_Mod_sett_176 F_Desk_change
    simp only [vB2_eta, vG_at ho (show 16 < 2 ^ 31 by omega)]
    rw [o2, if_neg (show ¬ ρ 22 0 o = 2 by rw [e]; decide), if_neg (show ¬ ρ 22 0 o = 3 by rw [e]; decide), if_neg (show ¬ ρ 22 0 o = 4 by rw [e]; decide), if_neg (show ¬ (2 : Int32) ≤ ρ 22 0 o by rw [e]; decide)]
    simp only [vL] at key ⊢
    by_cases c : nI j = 1
    · rw [if_pos c] at key
      rw [if_pos c, if_pos c]
      exact key
    · rw [if_neg c] at key
      rw [if_neg c, if_neg c]
      exact key
  · -- a gate
    rw [if_neg (show ¬ ρ 22 0 o = 0 by rw [e]; decide), if_pos e, is01]
    simp only [vB2]
    rw [if_neg (show ¬ ρ 22 0 o = 5 by rw [e]; decide), if_neg (show ¬ (2 : Int32) ≤ ρ 22 0 o by rw [e]; decide), m_is]
    simp only []
    refine jt_if Iff.rfl (fun _ => jt_b rfl hS') (fun w => ?_)
    unfold F_Mod_sett_90
    rw [if_neg (show ¬ ρ 22 0 o = 2 by rw [e]; decide), if_neg (show ¬ ρ 22 0 o = 3 by rw [e]; decide), if_neg (show ¬ ρ 22 0 o = 4 by rw [e]; decide), e176, f1]
    simp only []
    refine jt_if Iff.rfl (fun _ => ?_) (fun _ => jt_b rfl hS')
    rw [if_neg (show ¬ ρ 22 0 o = 3 by rw [e]; decide), if_neg (show ¬ ρ 22 0 o = 2 by rw [e]; decide)]
    obtain ⟨j, hj, rfl⟩ := iw_nI (n := 2) (by decide) (by omega) w
    have hx : nI j = 0 ∨ nI j = 1 := by
      have : j = 0 ∨ j = 1 := by omega
      rcases this with rfl | rfl
      · exact Or.inl rfl
      · exact Or.inr rfl
    have key := s_turnTo hn m hb hqu hJ hK hL hC hl ho hob' (Or.inr e) hx
    unfold F_Mod_sett_176 F_Desk_change
    simp only [vB2_eta, vG_at ho (show 16 < 2 ^ 31 by omega)]
    rw [o2, if_neg (show ¬ ρ 22 0 o = 2 by rw [e]; decide), if_neg (show ¬ ρ 22 0 o = 3 by rw [e]; decide), if_neg (show ¬ ρ 22 0 o = 4 by rw [e]; decide), if_neg (show ¬ (2 : Int32) ≤ ρ 22 0 o by rw [e]; decide)]
    simp only [vL] at key ⊢
    by_cases c : nI j = 1
    · rw [if_pos c] at key
      rw [if_pos c, if_pos c]
      exact key
    · rw [if_neg c] at key
      rw [if_neg c, if_neg c]
      exact key
  · -- a mutant
    rw [if_neg (show ¬ ρ 22 0 o = 0 by rw [e]; decide), if_neg (show ¬ ρ 22 0 o = 1 by rw [e]; decide), if_pos e, if_neg (show ¬ ρ 22 0 o = 5 by rw [e]; decide), if_pos (show (2 : Int32) ≤ ρ 22 0 o by rw [e]; decide), if_pos e]
    by_cases c : x2 = 1
    · rw [if_pos c, if_pos c]
      simp only [vB2]
      rw [if_neg (show ¬ (1 : Int32) = 0 by decide)]
      unfold F_Mod_sett_90
      rw [if_neg (show ¬ ρ 22 0 o = 3 by rw [e]; decide), if_neg (show ¬ ρ 22 0 o = 4 by rw [e]; decide), e176, f1]
      simp only []
      refine jt_if Iff.rfl (fun _ => ?_) (fun _ => jt_b rfl hS')
      rw [if_neg (show ¬ ρ 22 0 o = 3 by rw [e]; decide), if_pos e]
      have key := s_back hn hS' m hb hqu hJ hK hL hC hl ho hob' e ht hT hr5 hr h0
      unfold F_Mod_sett_176 F_Desk_change
      simp only [vB2_eta, vG_at ho (show 16 < 2 ^ 31 by omega)]
      rw [o2, if_pos e, if_pos (show (2 : Int32) ≤ ρ 22 0 o by rw [e]; decide), if_neg (show ¬ ρ 22 0 o = 3 by rw [e]; decide), if_neg (show ¬ ρ 22 0 o = 4 by rw [e]; decide)]
      exact key
    · rw [if_neg c, if_neg c]
      simp only [vB2]
      rw [if_pos trivial]
      exact jt_b rfl hS'
  · -- a semaphore
    rw [if_neg (show ¬ ρ 22 0 o = 0 by rw [e]; decide), if_neg (show ¬ ρ 22 0 o = 1 by rw [e]; decide), if_neg (show ¬ ρ 22 0 o = 2 by rw [e]; decide), if_pos e, is01, if_neg (show ¬ ρ 22 0 o = 5 by rw [e]; decide), if_pos (show (2 : Int32) ≤ ρ 22 0 o by rw [e]; decide), if_neg (show ¬ ρ 22 0 o = 2 by rw [e]; decide)]
    unfold F_Mod_sett_90
    rw [if_pos e, m_is]
    simp only [vB2]
    refine jt_if Iff.rfl (fun _ => jt_b rfl hS') (fun w => ?_)
    rw [if_neg (show ¬ ρ 22 0 o = 4 by rw [e]; decide), e176, f1]
    simp only []
    refine jt_if Iff.rfl (fun _ => ?_) (fun _ => jt_b rfl hS')
    rw [if_pos e, if_neg (show ¬ ρ 22 0 o = 2 by rw [e]; decide)]
    have hx : ∃ x, x < 10 ∧ x2 = nI x := by
      unfold iw_ at w
      by_cases c1 : x2 < 1
      · rw [if_pos c1] at w; exact absurd rfl w
      · rw [if_neg c1] at w
        by_cases c2 : (9 : Int32) < x2
        · rw [if_pos c2] at w; exact absurd rfl w
        · have h0 : ¬ x2 < 0 := fun z => c1 (by
            rw [Int32.lt_iff_toInt_lt] at *
            have e1 : (1 : Int32).toInt = 1 := by decide
            have e0 : (0 : Int32).toInt = 0 := by decide
            omega)
          obtain ⟨j, hj, rfl⟩ := nI_of h0
          rw [show (9 : Int32) = nI 9 from rfl, nI_ltI (by omega) (by omega)] at c2
          exact ⟨j, by omega, rfl⟩
    obtain ⟨x, hx, rfl⟩ := hx
    have key := s_raise hn hS' m hb hqu hJ hK hL hC hl ho hob' e hx
    unfold F_Mod_sett_176 F_Desk_change
    simp only [vB2_eta, vG_at ho (show 16 < 2 ^ 31 by omega)]
    rw [o2, if_neg (show ¬ ρ 22 0 o = 2 by rw [e]; decide), if_pos e, if_pos (show (2 : Int32) ≤ ρ 22 0 o by rw [e]; decide), if_pos e]
    exact key
  · -- a timer
    rw [if_neg (show ¬ ρ 22 0 o = 0 by rw [e]; decide), if_neg (show ¬ ρ 22 0 o = 1 by rw [e]; decide), if_neg (show ¬ ρ 22 0 o = 2 by rw [e]; decide), if_neg (show ¬ ρ 22 0 o = 3 by rw [e]; decide), if_pos e, is01, if_neg (show ¬ ρ 22 0 o = 5 by rw [e]; decide), if_pos (show (2 : Int32) ≤ ρ 22 0 o by rw [e]; decide), if_neg (show ¬ ρ 22 0 o = 2 by rw [e]; decide)]
    unfold F_Mod_sett_90
    rw [if_neg (show ¬ ρ 22 0 o = 3 by rw [e]; decide), if_pos e, m_is]
    simp only [vB2]
    refine jt_if Iff.rfl (fun _ => jt_b rfl hS') (fun w => ?_)
    rw [e176, f1]
    simp only []
    refine jt_if Iff.rfl (fun _ => ?_) (fun _ => jt_b rfl hS')
    rw [if_neg (show ¬ ρ 22 0 o = 3 by rw [e]; decide), if_neg (show ¬ ρ 22 0 o = 2 by rw [e]; decide)]
    obtain ⟨j, hj, rfl⟩ := iw_nI (n := 100) (by decide) (by omega) w
    have key := s_timer hn m hb hqu hJ hK hL hC hl ho hob' e hj
    unfold F_Mod_sett_176 F_Desk_change
    simp only [vB2_eta, vG_at ho (show 16 < 2 ^ 31 by omega)]
    rw [o2, if_neg (show ¬ ρ 22 0 o = 2 by rw [e]; decide), if_neg (show ¬ ρ 22 0 o = 3 by rw [e]; decide), if_pos e, if_pos (show (2 : Int32) ≤ ρ 22 0 o by rw [e]; decide), if_neg (show ¬ ρ 22 0 o = 3 by rw [e]; decide), if_pos e]
    exact key
  · -- a device
    rw [if_neg (show ¬ ρ 22 0 o = 0 by rw [e]; decide), if_neg (show ¬ ρ 22 0 o = 1 by rw [e]; decide), if_neg (show ¬ ρ 22 0 o = 2 by rw [e]; decide), if_neg (show ¬ ρ 22 0 o = 3 by rw [e]; decide), if_neg (show ¬ ρ 22 0 o = 4 by rw [e]; decide), if_pos e]
    simp only [vB2]
    rw [if_pos trivial]
    exact jt_b rfl hS'
