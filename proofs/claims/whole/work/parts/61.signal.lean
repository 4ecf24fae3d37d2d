/-! ===== the pure part: signaled, taken ===== -/
/-- o is signaled for t -/
def sg_ (ρ : ed_S) (o t : Nat) : Prop := (ρ 22 0 o = 3 ∧ ¬ ρ 24 0 o ≤ 0) ∨ (ρ 22 0 o = 2 ∧ (ρ 25 0 o < 0 ∨ (ρ 25 0 o = nI t ∧ ¬ 9 ≤ ρ 24 0 o))) ∨ (¬ ρ 22 0 o = 3 ∧ ¬ ρ 22 0 o = 2 ∧ ρ 20 0 o = 1)
theorem ty_ {ρ : ed_S} {o : Nat} (h : ∃ y, y < 6 ∧ ρ 22 0 o = nI y) : ρ 22 0 o = 0 ∨ ρ 22 0 o = 1 ∨ ρ 22 0 o = 2 ∨ ρ 22 0 o = 3 ∨ ρ 22 0 o = 4 ∨ ρ 22 0 o = 5 := by
  obtain ⟨y, hy, e⟩ := h
  rw [e]
  rcases (show y = 0 ∨ y = 1 ∨ y = 2 ∨ y = 3 ∨ y = 4 ∨ y = 5 by omega) with rfl | rfl | rfl | rfl | rfl | rfl
  · exact Or.inl rfl
  · exact Or.inr (Or.inl rfl)
  · exact Or.inr (Or.inr (Or.inl rfl))
  · exact Or.inr (Or.inr (Or.inr (Or.inl rfl)))
  · exact Or.inr (Or.inr (Or.inr (Or.inr (Or.inl rfl))))
  · exact Or.inr (Or.inr (Or.inr (Or.inr (Or.inr rfl))))
theorem s_sig {σ ρ : ed_S} {o t : Nat} (ho : o < 16) (h : ob_ σ ρ o) (h5 : ¬ ρ 22 0 o = 5) :
    (sg_ ρ o t ∧ F_Obj_isSignaledFor o (nI t) σ = some (1, σ) ∧ F_Mod_isSignaled (nI o) (nI t) ρ = some (1, ρ)) ∨ (¬ sg_ ρ o t ∧ F_Obj_isSignaledFor o (nI t) σ = some (0, σ) ∧ F_Mod_isSignaled (nI o) (nI t) ρ = some (0, ρ)) := by
  obtain ⟨x1, x2, x3, x4, x5, x6, x7, x8, x9, x10, x11, x12, x13, x14⟩ := h
  have eR : F_Mod_isSignaled (nI o) (nI t) ρ = if ρ 22 0 o = 3 then (if ρ 24 0 o ≤ 0 then some (0, ρ) else some (1, ρ)) else if ρ 22 0 o = 2 then (if ρ 25 0 o < 0 then some (1, ρ) else if ρ 25 0 o = nI t then (if 9 ≤ ρ 24 0 o then some (0, ρ) else some (1, ρ)) else some (0, ρ)) else some (ρ 20 0 o, ρ) := by
    unfold F_Mod_isSignaled
    simp only [vG_at ho (show 16 < 2 ^ 31 by omega), vC_at x9]
  have eC : F_Obj_isSignaledFor o (nI t) σ = if ρ 22 0 o = 2 then (if ρ 25 0 o = -1 then some (1, σ) else if ρ 25 0 o = nI t then (if 9 ≤ σ 26 o 0 then some (0, σ) else some (1, σ)) else some (0, σ)) else if σ 26 o 0 = 0 then some (0, σ) else some (1, σ) := by
    unfold F_Obj_isSignaledFor
    rw [x2, x4]
  rw [eC, eR]
  rcases ty_ x3 with e | e | e | e | e | e
  · have z := x11 (Or.inl e)
    rcases x9 with q | q
    · right
      rw [e, z, q]
      refine ⟨fun w => ?_, rfl, rfl⟩
      rcases w with w | w | w
      · rw [e] at w; exact absurd w.1 (by decide)
      · rw [e] at w; exact absurd w.1 (by decide)
      · rw [q] at w; exact absurd w.2.2 (by decide)
    · left
      rw [e, z, q]
      exact ⟨Or.inr (Or.inr ⟨by rw [e]; decide, by rw [e]; decide, q⟩), rfl, rfl⟩
  · have z := x11 (Or.inr (Or.inl e))
    rcases x9 with q | q
    · right
      rw [e, z, q]
      refine ⟨fun w => ?_, rfl, rfl⟩
      rcases w with w | w | w
      · rw [e] at w; exact absurd w.1 (by decide)
      · rw [e] at w; exact absurd w.1 (by decide)
      · rw [q] at w; exact absurd w.2.2 (by decide)
    · left
      rw [e, z, q]
      exact ⟨Or.inr (Or.inr ⟨by rw [e]; decide, by rw [e]; decide, q⟩), rfl, rfl⟩
  · obtain ⟨z, -⟩ := x10 (Or.inl e)
    have hneg := oi_neg x5 (by omega)
    rw [z, if_pos e, if_neg (show ¬ ρ 22 0 o = 3 by rw [e]; decide), if_pos e]
    by_cases c1 : ρ 25 0 o = -1
    · left
      rw [if_pos c1, if_pos (hneg.mpr c1)]
      exact ⟨Or.inr (Or.inl ⟨e, Or.inl (hneg.mpr c1)⟩), rfl, rfl⟩
    · rw [if_neg c1, if_neg (fun w => c1 (hneg.mp w))]
      by_cases c2 : ρ 25 0 o = nI t
      · rw [if_pos c2, if_pos c2]
        by_cases c3 : 9 ≤ ρ 24 0 o
        · right
          rw [if_pos c3, if_pos c3]
          refine ⟨fun w => ?_, rfl, rfl⟩
          rcases w with w | w | w
          · rw [e] at w; exact absurd w.1 (by decide)
          · rcases w.2 with w | w
            · exact c1 (hneg.mp w)
            · exact w.2 c3
          · exact w.2.1 e
        · left
          rw [if_neg c3, if_neg c3]
          exact ⟨Or.inr (Or.inl ⟨e, Or.inr ⟨c2, c3⟩⟩), rfl, rfl⟩
      · right
        rw [if_neg c2, if_neg c2]
        refine ⟨fun w => ?_, rfl, rfl⟩
        rcases w with w | w | w
        · rw [e] at w; exact absurd w.1 (by decide)
        · rcases w.2 with w | w
          · exact c1 (hneg.mp w)
          · exact c2 w.1
        · exact w.2.1 e
  · obtain ⟨z, d, hd, hz⟩ := x10 (Or.inr (Or.inl e))
    rw [z, if_neg (show ¬ ρ 22 0 o = 2 by rw [e]; decide), if_pos e]
    by_cases c : d = 0
    · right
      subst c
      rw [hz]
      refine ⟨fun w => ?_, rfl, rfl⟩
      rcases w with w | w | w
      · rw [hz] at w; exact w.2 (by decide)
      · rw [e] at w; exact absurd w.1 (by decide)
      · exact w.1 e
    · left
      rw [hz, if_neg (show ¬ nI d = 0 from nI_ne0 (by omega) (by omega)), if_neg (show ¬ nI d ≤ 0 from nI_nle (by omega) (by omega))]
      exact ⟨Or.inl ⟨e, by rw [hz]; exact nI_nle (by omega) (by omega)⟩, rfl, rfl⟩
  · have z := x11 (Or.inr (Or.inr e))
    rcases x9 with q | q
    · right
      rw [e, z, q]
      refine ⟨fun w => ?_, rfl, rfl⟩
      rcases w with w | w | w
      · rw [e] at w; exact absurd w.1 (by decide)
      · rw [e] at w; exact absurd w.1 (by decide)
      · rw [q] at w; exact absurd w.2.2 (by decide)
    · left
      rw [e, z, q]
      exact ⟨Or.inr (Or.inr ⟨by rw [e]; decide, by rw [e]; decide, q⟩), rfl, rfl⟩
  · exact absurd e h5


/-- the object's fields one by one: only value, owner, abandoned / isSet, abandoned, count, owner have changed -/
theorem ob_.put {σ σ' ρ ρ' : ed_S} {o : Nat} (h : ob_ σ ρ o) (a : ag_ σ σ' [26, 27, 28]) (b : ag_ ρ ρ' [20, 21, 24, 25]) (h1 : σ' 27 o 0 = ρ' 25 0 o) (h2 : oi_ (ρ' 25 0 o) 8) (h3 : σ' 28 o 0 = ρ' 21 0 o) (h4 : ρ' 21 0 o = 0 ∨ ρ' 21 0 o = 1) (h5 : ¬ ρ 22 0 o = 2 → ρ' 21 0 o = 0) (h6 : ρ' 20 0 o = 0 ∨ ρ' 20 0 o = 1) (h7 : (ρ 22 0 o = 2 ∨ ρ 22 0 o = 3 ∨ ρ 22 0 o = 5) → σ' 26 o 0 = ρ' 24 0 o ∧ ∃ c, c < 10 ∧ ρ' 24 0 o = nI c) (h8 : (ρ 22 0 o = 0 ∨ ρ 22 0 o = 1 ∨ ρ 22 0 o = 4) → σ' 26 o 0 = ρ' 20 0 o) (h9 : ρ 22 0 o = 2 → (ρ' 25 0 o = -1 ↔ ρ' 24 0 o = 0)) : ob_ σ' ρ' o := by
  obtain ⟨x1, x2, x3, x4, x5, x6, x7, x8, x9, x10, x11, x12, x13, x14, x15⟩ := h
  unfold ob_
  simp only [a.at 22 (by decide), a.at 29 (by decide), a.at 30 (by decide), a.at 43 (by decide), a.at 44 (by decide), a.at 45 (by decide), b.at 19 (by decide), b.at 22 (by decide), b.at 26 (by decide), b.at 27 (by decide), b.at 28 (by decide), b.at 29 (by decide), b.at 30 (by decide)]
  exact ⟨x1, x2, x3, h1, h2, h3, h4, h5, h6, h7, h8, x12, x13, x14, h9⟩
theorem s_take {σ ρ : ed_S} {o t : Nat} (ho : o < 16) (ht : t < 8) (h : ob_ σ ρ o) (h5 : ¬ ρ 22 0 o = 5) (hs : sg_ ρ o t) :
    ∃ σ' ρ' a, F_Obj_take o (nI t) σ = some (a, σ') ∧ F_Mod_take (nI o) (nI t) ρ = some ((if a = 0 then 0 else 16), ρ') ∧ (a = 0 ∨ a = 1) ∧ ob_ σ' ρ' o ∧ ag_ σ σ' [26, 27, 28] ∧ ag_ ρ ρ' [20, 21, 24, 25] ∧ (∀ k i j, i ≠ o → σ' k i j = σ k i j) ∧ (∀ k j, j ≠ o → ρ' k 0 j = ρ k 0 j) ∧ (∀ u, u < 8 → u ≠ t → sg_ ρ' o u → sg_ ρ o u) := by
  have hob := h
  obtain ⟨x1, x2, x3, x4, x5, x6, x7, x8, x9, x10, x11, x12, x13, x14, x15⟩ := h
  have hv := fun {α : Type} {f : Nat → Option α} => vG_at (f := f) ho (show 16 < 2 ^ 31 by omega)
  have keep : (¬ ρ 22 0 o = 1 ∧ ¬ ρ 22 0 o = 3 ∧ ¬ ρ 22 0 o = 2) → ∃ σ' ρ' a, F_Obj_take o (nI t) σ = some (a, σ') ∧ F_Mod_take (nI o) (nI t) ρ = some ((if a = 0 then 0 else 16), ρ') ∧ (a = 0 ∨ a = 1) ∧ ob_ σ' ρ' o ∧ ag_ σ σ' [26, 27, 28] ∧ ag_ ρ ρ' [20, 21, 24, 25] ∧ (∀ k i j, i ≠ o → σ' k i j = σ k i j) ∧ (∀ k j, j ≠ o → ρ' k 0 j = ρ k 0 j) ∧ (∀ u, u < 8 → u ≠ t → sg_ ρ' o u → sg_ ρ o u) := fun hh => by
    have h28 : σ 28 o 0 = 0 := by rw [x6]; exact x8 hh.2.2
    refine ⟨σ, ρ, 0, ?_, ?_, Or.inl rfl, hob, ag_.rf, ag_.rf, fun _ _ _ _ => rfl, fun _ _ _ => rfl, fun _ _ _ z => z⟩
    · unfold F_Obj_take
      rw [x2, if_neg hh.1, if_neg hh.2.1, if_neg hh.2.2, h28]
      rfl
    · unfold F_Mod_take F_Mod_take_37
      simp only [hv]
      rw [if_neg hh.1, if_neg hh.2.1, if_neg hh.2.2]
      rfl
  rcases ty_ x3 with e | e | e | e | e | e
  · exact keep ⟨by rw [e]; decide, by rw [e]; decide, by rw [e]; decide⟩
  · -- a gate is not signaled any more
    have h28 : σ 28 o 0 = 0 := by rw [x6]; exact x8 (by rw [e]; decide)
    have ha : ag_ σ (ed_st σ 26 o 0 0) [26, 27, 28] := ag_.rf.st (by decide)
    have hb : ag_ ρ (ed_st ρ 20 0 o 0) [20, 21, 24, 25] := ag_.rf.st (by decide)
    refine ⟨ed_st σ 26 o 0 0, ed_st ρ 20 0 o 0, 0, ?_, ?_, Or.inl rfl, ?_, ha, hb, fun k i j hi => ed_st_n (by omega), fun k j hj => ed_st_n (by omega), ?_⟩
    · unfold F_Obj_take
      rw [x2, if_pos e, h28]
      rfl
    · unfold F_Mod_take F_Mod_take_37
      simp only [hv, vL]
      have z : ed_st ρ 20 0 o 0 22 0 o = 1 := by rw [ed_st_n (by omega)]; exact e
      rw [if_pos e, z]
      rfl
    · refine hob.put ha hb ?_ ?_ ?_ ?_ ?_ ?_ ?_ ?_ ?_
      · rw [ed_st_n (by omega), ed_st_n (by omega)]; exact x4
      · rw [ed_st_n (by omega)]; exact x5
      · rw [ed_st_n (by omega), ed_st_n (by omega)]; exact x6
      · rw [ed_st_n (by omega)]; exact x7
      · rw [ed_st_n (by omega)]; exact x8
      · rw [ed_st_s]; exact Or.inl rfl
      · intro w
        rw [e] at w
        exact absurd w (by decide)
      · intro _
        rw [ed_st_s, ed_st_s]
      · intro w
        rw [e] at w
        exact absurd w (by decide)
    · intro u _ _ w
      rcases w with w | w | w
      · have w1 := w.1
        rw [hb.at 22 (by decide), e] at w1
        exact absurd w1 (by decide)
      · have w1 := w.1
        rw [hb.at 22 (by decide), e] at w1
        exact absurd w1 (by decide)
      · have w3 := w.2.2
        rw [ed_st_s] at w3
        exact absurd w3 (by decide)
  · -- a mutant is had once more
    obtain ⟨z, d, hd, hz⟩ := x10 (Or.inl e)
    have hd9 : d < 9 := by
      rcases hs with w | w | w
      · rw [e] at w; exact absurd w.1 (by decide)
      · rcases w.2 with w | w
        · have h0 := (x15 e).mp ((oi_neg x5 (by omega)).mp w)
          rw [hz] at h0
          have := (nI_eq (a := d) (b := 0) (by omega) (by omega)).mp h0
          omega
        · rcases Nat.lt_or_ge d 9 with q | q
          · exact q
          · exact absurd (by rw [hz]; exact nI_le (a := 9) q (by omega)) w.2
      · exact absurd e w.2.1
    have ha : ag_ σ (ed_st (ed_st (ed_st σ 27 o 0 (nI t)) 26 o 0 (σ 26 o 0 + 1)) 28 o 0 0) [26, 27, 28] := ((ag_.rf.st (by decide)).st (by decide)).st (by decide)
    have hb : ag_ ρ (ed_st (ed_st (ed_st ρ 21 0 o 0) 25 0 o (nI t)) 24 0 o (ρ 24 0 o + 1)) [20, 21, 24, 25] := ((ag_.rf.st (by decide)).st (by decide)).st (by decide)
    refine ⟨_, _, ρ 21 0 o, ?_, ?_, x7, ?_, ha, hb, fun k i j hi => by rw [ed_st_n (by omega), ed_st_n (by omega), ed_st_n (by omega)], fun k j hj => by rw [ed_st_n (by omega), ed_st_n (by omega), ed_st_n (by omega)], ?_⟩
    · unfold F_Obj_take
      rw [x2, if_neg (show ¬ ρ 22 0 o = 1 by rw [e]; decide), if_neg (show ¬ ρ 22 0 o = 3 by rw [e]; decide), if_pos e]
      simp only [vL]
      rw [x6, vC_at x7]
      rw [show ed_st σ 27 o 0 (nI t) 26 o 0 = σ 26 o 0 from ed_st_n (by omega)]
    · unfold F_Mod_take F_Mod_take_37
      simp only [hv, vL]
      rw [if_neg (show ¬ ρ 22 0 o = 1 by rw [e]; decide), if_neg (show ¬ ρ 22 0 o = 3 by rw [e]; decide), if_pos e]
      rw [show ed_st (ed_st ρ 21 0 o 0) 25 0 o (nI t) 24 0 o = ρ 24 0 o by rw [ed_st_n (by omega), ed_st_n (by omega)]]
      split <;> rfl
    · refine hob.put ha hb ?_ ?_ ?_ ?_ ?_ ?_ ?_ ?_ ?_
      · rw [ed_st_n (by omega), ed_st_n (by omega), ed_st_s, ed_st_n (by omega), ed_st_s]
      · rw [ed_st_n (by omega), ed_st_s]; exact Or.inr ⟨t, ht, rfl⟩
      · rw [ed_st_s, ed_st_n (by omega), ed_st_n (by omega), ed_st_s]
      · rw [ed_st_n (by omega), ed_st_n (by omega), ed_st_s]; exact Or.inl rfl
      · intro _
        rw [ed_st_n (by omega), ed_st_n (by omega), ed_st_s]
      · rw [ed_st_n (by omega), ed_st_n (by omega), ed_st_n (by omega)]; exact x9
      · intro _
        rw [ed_st_n (by omega), ed_st_s, ed_st_s, z, hz, nI_1]
        exact ⟨rfl, d + 1, by omega, rfl⟩
      · intro w
        rw [e] at w
        exact absurd w (by decide)
      · intro _
        rw [ed_st_n (by omega), ed_st_s, ed_st_s, hz, nI_1]
        exact ⟨fun w => absurd w (nI_m1 (by omega)), fun w => absurd w (nI_ne0 (by omega) (by omega))⟩
    · intro u hu8 hut w
      rcases w with w | w | w
      · have w1 := w.1
        rw [hb.at 22 (by decide), e] at w1
        exact absurd w1 (by decide)
      · rcases w.2 with w | w
        · rw [ed_st_n (by omega), ed_st_s] at w
          exact absurd w (nI_pos (by omega))
        · have w1 := w.1
          rw [ed_st_n (by omega), ed_st_s] at w1
          exact absurd ((nI_eq (by omega) (by omega)).mp w1).symm hut
      · exact absurd (by rw [hb.at 22 (by decide)]; exact e) w.2.1
  · -- a semaphore counts one less
    obtain ⟨z, d, hd, hz⟩ := x10 (Or.inr (Or.inl e))
    have h28 : σ 28 o 0 = 0 := by rw [x6]; exact x8 (by rw [e]; decide)
    have hd0 : 0 < d := by
      rcases hs with w | w | w
      · rcases Nat.eq_zero_or_pos d with q | q
        · subst q
          rw [hz] at w
          exact absurd (by decide) w.2
        · exact q
      · rw [e] at w; exact absurd w.1 (by decide)
      · exact absurd e w.1
    obtain ⟨d', rfl⟩ : ∃ y, d = y + 1 := ⟨d - 1, by omega⟩
    have ha : ag_ σ (ed_st σ 26 o 0 (σ 26 o 0 - 1)) [26, 27, 28] := ag_.rf.st (by decide)
    have hb : ag_ ρ (ed_st ρ 24 0 o (ρ 24 0 o - 1)) [20, 21, 24, 25] := ag_.rf.st (by decide)
    refine ⟨_, _, 0, ?_, ?_, Or.inl rfl, ?_, ha, hb, fun k i j hi => ed_st_n (by omega), fun k j hj => ed_st_n (by omega), fun u _ _ _ => Or.inl ⟨e, by rw [hz]; exact nI_nle (by omega) (by omega)⟩⟩
    · unfold F_Obj_take
      rw [x2, if_neg (show ¬ ρ 22 0 o = 1 by rw [e]; decide), if_pos e, h28]
      rfl
    · unfold F_Mod_take F_Mod_take_37
      simp only [hv, vL]
      rw [if_neg (show ¬ ρ 22 0 o = 1 by rw [e]; decide), if_pos e, show ed_st ρ 24 0 o (ρ 24 0 o - 1) 22 0 o = 3 by rw [ed_st_n (by omega)]; exact e]
      rfl
    · refine hob.put ha hb ?_ ?_ ?_ ?_ ?_ ?_ ?_ ?_ ?_
      · rw [ed_st_n (by omega), ed_st_n (by omega)]; exact x4
      · rw [ed_st_n (by omega)]; exact x5
      · rw [ed_st_n (by omega), ed_st_n (by omega)]; exact x6
      · rw [ed_st_n (by omega)]; exact x7
      · rw [ed_st_n (by omega)]; exact x8
      · rw [ed_st_n (by omega)]; exact x9
      · intro _
        rw [ed_st_s, ed_st_s, z, hz, nI_pred]
        exact ⟨rfl, d', by omega, rfl⟩
      · intro w
        rw [e] at w
        exact absurd w (by decide)
      · intro w
        rw [e] at w
        exact absurd w (by decide)
  · exact keep ⟨by rw [e]; decide, by rw [e]; decide, by rw [e]; decide⟩
  · exact absurd e h5
