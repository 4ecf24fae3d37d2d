/-! ===== the pure part: await, the call ===== -/
theorem how_ : ∀ w, w < 4 → ((nI w &&& 2 = 0 ↔ nI w < 2) ∧ (nI w ≤ 1 ↔ nI w < 2)) := by decide +kernel
/-- what may stand at a place of a wait -/
def at_ (ρ : ed_S) (a : Int32) : Prop := a = -1 ∨ ∃ o, o < 16 ∧ a = nI o ∧ ¬ hc_ ρ (nI o) = 0 ∧ ¬ ρ 22 0 o = 5
theorem s_await {n t w p : Nat} {x1 x2 x3 x5 x6 x7 x11 a1 a2 a3 : Int32} {σ ρ : ed_S} {T P : Nat} {q : Nat → List Nat} (hn : n < 512) (m : gM σ ρ T P q) (hb : bd_ ρ (1300 * n)) (hqu : qu_ ρ q) (hJ : gJ ρ q) (hK : gK ρ) (hL : gL ρ T) (hC : ∃ C, C ≤ 9 * n ∧ ρ 46 0 0 = nI C) (hlv : ρ 47 0 0 = 0) (hl : lk_ ρ T q ∧ q 33 = [] ∧ na_ ρ T q) (ht : t < T) (hr : ρ 44 0 0 = nI t) (h0 : ρ 7 0 t = 0) (hw : w < 4) (hx5 : x5 = -1 ∨ ∃ k, k < 100 ∧ x5 = nI k) (ha1 : at_ ρ a1) (ha2 : at_ ρ a2) (ha3 : at_ ρ a3) (h12 : a1 = a2 → a1 = -1) (h13 : a1 = a3 → a1 = -1) (h23 : a2 = a3 → a2 = -1) (h7 : (x7 = 0 ∧ a3 = -1) ∨ (¬ x7 = 0 ∧ x11 = a3)) :
    jt_ (zS (n + 1)) (vB1 (F_Thr_wish t a1 a2 a3 (nI w) σ) fun σ44 => (if (σ44 16 t 0) = 0 then (F_Desk_await_169 x1 x2 x3 (nI w) x5 p (nI t) t σ44) else (if (σ44 18 t 0) ≤ 0 then (F_Desk_await_169 x1 x2 x3 (nI w) x5 p (nI t) t σ44) else (vB1 (F_Thr_deliverCalls t σ44) fun σ48 => (some ((-12), σ48)))))) (F_Mod_await_254 x1 x2 x3 (nI w) x5 x6 x7 (nI t) a1 a2 x11 ρ) := by
  have hT8 := m.2.1.2.1
  have ht8 : t < 8 := by omega
  obtain ⟨i1, i2⟩ := how_ w hw
  have ne2 : ¬ ρ 7 0 t = 2 := by rw [h0]; decide
  obtain ⟨v15, hv15⟩ : ∃ v : Int32, v = if nI w &&& 1 = 0 then 0 else 1 := ⟨_, rfl⟩
  obtain ⟨v16, hv16⟩ : ∃ v : Int32, v = if nI w &&& 2 = 0 then 0 else 1 := ⟨_, rfl⟩
  have v15i : v15 = 0 ↔ nI w &&& 1 = 0 := by
    rw [hv15]
    by_cases c : nI w &&& 1 = 0
    · rw [if_pos c]; exact ⟨fun _ => c, fun _ => rfl⟩
    · rw [if_neg c]; exact ⟨fun z => absurd z (by decide), fun z => absurd z c⟩
  have v16i : v16 = 0 ↔ nI w < 2 := by
    rw [hv16, ← i1]
    by_cases c : nI w &&& 2 = 0
    · rw [if_pos c]; exact ⟨fun _ => c, fun _ => rfl⟩
    · rw [if_neg c]; exact ⟨fun z => absurd z (by decide), fun z => absurd z c⟩
  obtain ⟨σ1, hσ1⟩ : ∃ z, z = ed_st (ed_st (ed_st (ed_st (ed_st σ 40 t 0 a1) 40 t 1 a2) 40 t 2 a3) 15 t 0 v15) 16 t 0 v16 := ⟨_, rfl⟩
  have e1 : F_Thr_wish t a1 a2 a3 (nI w) σ = some σ1 := by
    unfold F_Thr_wish
    have g0 : ∀ f : Nat → Option ed_S, vG 0 3 f = f 0 := fun f => vG_at (j := 0) (by omega) (by omega)
    have g1 : ∀ f : Nat → Option ed_S, vG 1 3 f = f 1 := fun f => vG_at (j := 1) (by omega) (by omega)
    have g2 : ∀ f : Nat → Option ed_S, vG 2 3 f = f 2 := fun f => vG_at (j := 2) (by omega) (by omega)
    rw [g0]
    simp only [vL]
    rw [g1, g2, hσ1, hv15, hv16]
    by_cases c : nI w &&& 1 = 0
    · rw [if_pos c, if_pos c]
      by_cases c2 : nI w &&& 2 = 0
      · rw [if_pos c2, if_pos c2]
      · rw [if_neg c2, if_neg c2]
    · rw [if_neg c, if_neg c]
      by_cases c2 : nI w &&& 2 = 0
      · rw [if_pos c2, if_pos c2]
      · rw [if_neg c2, if_neg c2]
  rw [vB1_at e1]
  have a : ∀ k i j, ¬ (k ∈ [15, 16, 40] ∧ i = t) → σ1 k i j = σ k i j := fun k i j hk => by
    have hk' : ¬ ((k = 15 ∨ k = 16 ∨ k = 40) ∧ i = t) := by
      simp only [List.mem_cons, List.not_mem_nil, or_false] at hk
      exact hk
    rw [hσ1, ed_st_n (by omega), ed_st_n (by omega), ed_st_n (by omega), ed_st_n (by omega), ed_st_n (by omega)]
  have s16 : σ1 16 t 0 = v16 := by rw [hσ1, ed_st_s]
  have s15 : σ1 15 t 0 = v15 := by rw [hσ1, ed_st_n (by omega), ed_st_s]
  have s40 : ∀ k, k < 3 → σ1 40 t k = if k = 0 then a1 else if k = 1 then a2 else a3 := fun k hk => by
    have : k = 0 ∨ k = 1 ∨ k = 2 := by omega
    rcases this with rfl | rfl | rfl <;> (rw [hσ1]; simp [ed_st])
  have s18 : σ1 18 t 0 = nI (q t).length := by rw [a 18 t 0 (fun z => absurd z.1 (by decide))]; exact (m.1 t (by omega)).1
  have hc4 : (q t).length ≤ 4 := by
    have := (m.1 t (by omega)).2.1
    unfold ed_cap at this
    rw [if_pos (by omega)] at this
    exact this
  obtain ⟨mA, hAA, -, -, -⟩ := m.wish (σ' := σ1) (ρ' := ρ) ne2 a (fun _ _ _ _ => rfl)
  -- the rest, where no call is delivered
  have key : (¬ nI w < 2 → q t = []) → jt_ (zS (n + 1)) (F_Desk_await_169 x1 x2 x3 (nI w) x5 p (nI t) t σ1) (F_Mod_await_283 x1 x2 x3 (nI w) x5 x6 x7 (nI t) a1 a2 x11 ρ) := fun hnc => by
    obtain ⟨ρ1, hρ1⟩ : ∃ z, z = ed_st (ed_st (ed_st (ed_st ρ 17 0 (3 * t) a1) 17 0 (3 * t + 1) a2) 17 0 (3 * t + 2) a3) 14 0 t (nI w) := ⟨_, rfl⟩
    have b : ∀ k i j, ¬ ((k = 14 ∧ j = t) ∨ (k = 17 ∧ j / 3 = t)) → ρ1 k i j = ρ k i j := fun k i j hk => by
      rw [hρ1, ed_st_n (by omega), ed_st_n (by omega), ed_st_n (by omega), ed_st_n (by omega)]
    obtain ⟨m1, hA, hB, k1, k2⟩ := m.wish ne2 a b
    have r14 : ρ1 14 0 t = nI w := by rw [hρ1, ed_st_s]
    have r17 : ∀ k, k < 3 → ρ1 17 0 (3 * t + k) = if k = 0 then a1 else if k = 1 then a2 else a3 := fun k hk => by
      have : k = 0 ∨ k = 1 ∨ k = 2 := by omega
      rcases this with rfl | rfl | rfl <;> (rw [hρ1]; simp [ed_st])
    have hat : ∀ k, k < 3 → at_ ρ (σ1 40 t k) := fun k hk => by
      rw [s40 k hk]
      split
      · exact ha1
      · split
        · exact ha2
        · exact ha3
    have hpl : pl_ σ1 ρ1 t := by
      refine ⟨fun k hk => ⟨by rw [s40 k hk, r17 k hk], ?_, fun o ho hs => ?_⟩, fun k k' hk hk' hkk hs => ?_⟩
      · rcases hat k hk with z | ⟨o, z1, z2, -⟩
        · exact Or.inl z
        · exact Or.inr ⟨o, z1, z2⟩
      · rcases hat k hk with z | ⟨o', z1, z2, z3, z4⟩
        · rw [z] at hs; exact absurd hs.symm (nI_m1 (by omega))
        · rw [hs] at z2
          have := (nI_eq (by omega) (by omega)).mp z2
          subst this
          rw [hB.at 22 (by decide)]; exact z4
      · have hk3 : k = 0 ∨ k = 1 ∨ k = 2 := by omega
        have hk3' : k' = 0 ∨ k' = 1 ∨ k' = 2 := by omega
        have y0 : σ1 40 t 0 = a1 := by rw [s40 0 (by omega)]; rfl
        have y1 : σ1 40 t 1 = a2 := by rw [s40 1 (by omega)]; rfl
        have y2 : σ1 40 t 2 = a3 := by rw [s40 2 (by omega)]; rfl
        rcases hk3 with rfl | rfl | rfl <;> rcases hk3' with rfl | rfl | rfl
        · omega
        · rw [y0, y1] at hs; rw [y0]; exact h12 hs
        · rw [y0, y2] at hs; rw [y0]; exact h13 hs
        · rw [y1, y0] at hs; rw [y1, hs]; exact h12 hs.symm
        · omega
        · rw [y1, y2] at hs; rw [y1]; exact h23 hs
        · rw [y2, y0] at hs; rw [y2, hs]; exact h13 hs.symm
        · rw [y2, y1] at hs; rw [y2, hs]; exact h23 hs.symm
        · omega
    have hth : ∀ k o, k < 3 → o < 16 → ρ1 17 0 (3 * t + k) = nI o → ¬ hc_ ρ1 (nI o) = 0 := fun k o hk ho hs => by
      rw [r17 k hk, ← s40 k hk] at hs
      rw [hc_.ag hB (by decide)]
      rcases hat k hk with z | ⟨o', z1, z2, z3, z4⟩
      · rw [z] at hs; exact absurd hs.symm (nI_m1 (by omega))
      · rw [hs] at z2
        have := (nI_eq (by omega) (by omega)).mp z2
        subst this
        exact z3
    have hpo : po_ σ1 ρ1 t := fun k o hk ho hs => by
      have := hth k o hk ho (by rw [r17 k hk, ← s40 k hk]; exact hs)
      exact (m1.2.2.2.2.2.2.2.2.2.2.2.2.2.2 o ho (fun z => this z.1)).1
    have hy15 : σ1 15 t 0 = 0 ↔ (ρ1 14 0 t &&& 1) = 0 := by rw [s15, r14]; exact v15i
    have hy16 : σ1 16 t 0 = 0 ↔ ρ1 14 0 t < 2 := by rw [s16, r14]; exact v16i
    have eR : F_Mod_await_283 x1 x2 x3 (nI w) x5 x6 x7 (nI t) a1 a2 x11 ρ = (vB2 (F_Mod_satisfy (nI t) ρ1) fun r15 σ13 => (if 0 ≤ r15 then (if r15 < 0 then (F_Mod_end (-11) σ13) else (F_Mod_end r15 σ13)) else (if x5 = 0 then (if r15 < 0 then (F_Mod_end (-11) σ13) else (F_Mod_end r15 σ13)) else (vL (ed_st σ13 7 0 t 2) fun σ29 => (vL (ed_st σ29 44 0 0 (-1)) fun σ31 => (vL (ed_st σ31 8 0 t (-10)) fun σ37 => (if 0 ≤ x5 then (F_Mod_await_417 x1 x2 x3 (nI w) x5 x6 x7 (nI t) a1 a2 x11 r15 ((σ37 46 0 0) + x5) (nI t) σ37) else (F_Mod_await_417 x1 x2 x3 (nI w) x5 x6 x7 (nI t) a1 a2 x11 r15 (-1) (nI t) σ37)))))))) := by
      have e30 : 3 * nI t = nI (3 * t) := pk_mul 3 t
      have e31 : nI (3 * t) + 1 = nI (3 * t + 1) := nI_1 _
      have e32 : nI (3 * t) + 2 = nI (3 * t + 2) := nI_add (3 * t) 2
      have e328 : ∀ y, y = a3 → F_Mod_await_328 x1 x2 x3 (nI w) x5 x6 x7 (nI t) a1 a2 x11 y (nI (3 * t + 2)) (ed_st (ed_st ρ 17 0 (3 * t) a1) 17 0 (3 * t + 1) a2) = (vB2 (F_Mod_satisfy (nI t) ρ1) fun r15 σ13 => (if 0 ≤ r15 then (if r15 < 0 then (F_Mod_end (-11) σ13) else (F_Mod_end r15 σ13)) else (if x5 = 0 then (if r15 < 0 then (F_Mod_end (-11) σ13) else (F_Mod_end r15 σ13)) else (vL (ed_st σ13 7 0 t 2) fun σ29 => (vL (ed_st σ29 44 0 0 (-1)) fun σ31 => (vL (ed_st σ31 8 0 t (-10)) fun σ37 => (if 0 ≤ x5 then (F_Mod_await_417 x1 x2 x3 (nI w) x5 x6 x7 (nI t) a1 a2 x11 r15 ((σ37 46 0 0) + x5) (nI t) σ37) else (F_Mod_await_417 x1 x2 x3 (nI w) x5 x6 x7 (nI t) a1 a2 x11 r15 (-1) (nI t) σ37)))))))) := fun y hy => by
        unfold F_Mod_await_328
        rw [vG_at (show 3 * t + 2 < 24 by omega) (by omega), hy]
        simp only [vG_at ht8 (show 8 < 2 ^ 31 by omega), vL, vB2_eta]
        rw [← hρ1]
      unfold F_Mod_await_283
      rw [e30, vG_at (show 3 * t < 24 by omega) (by omega), e31, e32]
      simp only [vL]
      rw [vG_at (show 3 * t + 1 < 24 by omega) (by omega)]
      rcases h7 with ⟨z1, z2⟩ | ⟨z1, z2⟩
      · rw [if_pos z1, e328 _ z2.symm]
        simp only [vL]
      · rw [if_neg z1, e328 _ z2]
        simp only [vL]
    rw [eR]
    unfold F_Desk_await_169
    have hC' := hC_up hC (hB.at 46 (by decide) 0 0)
    have hqu1 := k1 hqu
    have hna1 := k2 hl.2.2
    have hlk1 : lk_ ρ1 T q := hl.1.ag hB (by decide)
    rcases s_sat ht8 hpl hpo hy15 with ⟨ns, f1, f2⟩ | ⟨ys, v, σ2, ρ2, hv, f1, f2, te⟩
    · rw [vB2_at f1, vB2_at f2, if_pos rfl, if_neg (show ¬ (0 : Int32) ≤ -1 by decide)]
      have z1 : zM (1300 * n) σ1 ρ1 T P q := ⟨m1, hb.ag hB (by decide), hqu1, hJ.ag hB (by decide) rfl, hK.ag hB (by decide), hL.ag hB (by decide)⟩
      by_cases c5 : x5 = 0
      · rw [if_pos c5, if_pos c5, if_pos (show (-1 : Int32) < 0 by decide)]
        obtain ⟨ρ', l1, l2⟩ := z1.fin0 (n := n + 1) (by omega) hC' (fun _ => ⟨hlk1, hl.2.1, hna1⟩) (-11)
        rw [l1]
        exact jt_b rfl l2
      · rw [if_neg c5, if_neg c5]
        simp only [vL]
        have e46 : ed_st (ed_st (ed_st ρ1 7 0 t 2) 44 0 0 (-1)) 8 0 t (-10) 46 0 0 = ρ1 46 0 0 := by rw [ed_st_n (by omega), ed_st_n (by omega), ed_st_n (by omega)]
        obtain ⟨C, hC1, hC2⟩ := hC
        have a8 := m.2.1.2.2.2.2.2.2.2.1
        -- the deadline
        obtain ⟨d, hd, ed1, ed2⟩ : ∃ d : Int32, (d = -1 ∨ 0 ≤ d) ∧ F_Desk_beginWait (nI t) x5 σ1 = (vB1 (F_Row_addLast 32 (nI t) (ed_st (ed_st (ed_st (ed_st (ed_st σ1 10 t 0 2) 11 t 0 (-10)) 14 t 0 0) 17 t 0 d) 5 0 0 (-1))) fun σ24 => (vB1 (F_Desk_pointToPlacesOf t 1 σ24) fun σ26 => (some σ26))) ∧ (if 0 ≤ x5 then (F_Mod_await_417 x1 x2 x3 (nI w) x5 x6 x7 (nI t) a1 a2 x11 (-1) (ρ1 46 0 0 + x5) (nI t) (ed_st (ed_st (ed_st ρ1 7 0 t 2) 44 0 0 (-1)) 8 0 t (-10))) else (F_Mod_await_417 x1 x2 x3 (nI w) x5 x6 x7 (nI t) a1 a2 x11 (-1) (-1) (nI t) (ed_st (ed_st (ed_st ρ1 7 0 t 2) 44 0 0 (-1)) 8 0 t (-10)))) = F_Mod_await_417 x1 x2 x3 (nI w) x5 x6 x7 (nI t) a1 a2 x11 (-1) d (nI t) (ed_st (ed_st (ed_st ρ1 7 0 t 2) 44 0 0 (-1)) 8 0 t (-10)) := by
          rcases hx5 with hx | ⟨k, hk, hx⟩
          · refine ⟨-1, Or.inl rfl, ?_, ?_⟩
            · unfold F_Desk_beginWait
              rw [vG_at ht8 (by omega)]
              simp only [vL]
              rw [if_pos hx]
            · rw [if_neg (by rw [hx]; decide)]
          · refine ⟨nI (C + k), Or.inr (nI_pos' (by omega)), ?_, ?_⟩
            · unfold F_Desk_beginWait
              rw [vG_at ht8 (by omega)]
              simp only [vL]
              rw [if_neg (by rw [hx]; exact nI_m1 (by omega)), ed_st_n (show ¬ (3 = 14 ∧ 0 = t ∧ 0 = 0) by omega), ed_st_n (show ¬ (3 = 11 ∧ 0 = t ∧ 0 = 0) by omega), ed_st_n (show ¬ (3 = 10 ∧ 0 = t ∧ 0 = 0) by omega), hA.at 3 (by decide), a8, hC2, hx, nI_add]
            · rw [if_pos (by rw [hx]; exact nI_pos' (by omega)), hB.at 46 (by decide), hC2, hx, nI_add]
        rw [e46, ed2, ed1]
        obtain ⟨σ3, ρ3, g1, g2, m3, hA3, hB3, g3, g4⟩ := s_wait (d := d) m1 ht (by rw [hB.at 44 (by decide)]; exact hr) hpl hth hy15 hy16 ((hb.ag hB (by decide)).nw (by omega)) hd
        rw [vB1_at g1]
        have e417 : F_Mod_await_417 x1 x2 x3 (nI w) x5 x6 x7 (nI t) a1 a2 x11 (-1) d (nI t) (ed_st (ed_st (ed_st ρ1 7 0 t 2) 44 0 0 (-1)) 8 0 t (-10)) = F_Mod_end (-10) ρ3 := by
          unfold F_Mod_await_417
          simp only [vG_at ht8 (show 8 < 2 ^ 31 by omega), vL, vB2_eta]
          have e51 : ed_st (ed_st (ed_st (ed_st (ed_st ρ1 7 0 t 2) 44 0 0 (-1)) 8 0 t (-10)) 13 0 t d) 12 0 t 0 51 0 0 = ρ1 51 0 0 := by rw [ed_st_n (by omega), ed_st_n (by omega), ed_st_n (by omega), ed_st_n (by omega), ed_st_n (by omega)]
          rw [e51, ← g2]
        rw [e417]
        have z3 : zM (1300 * n + 1) σ3 ρ3 T P (va_up q 32 (q 32 ++ [t])) := by
          refine ⟨m3, (hb.ag hB (by decide)).s (by omega) g4 (hB3.at 52 (by decide) 0 0), fun u hu s => ?_, z1.2.2.2.1.ag hB3 (by decide) (up_n (by omega)), z1.2.2.2.2.1.ag hB3 (by decide), z1.2.2.2.2.2.ag hB3 (by decide)⟩
          rw [up_s, List.mem_append, List.mem_singleton] at hu
          have s' := (sat_.ag hB3 (by decide)).mp s
          rcases hu with hu | hu
          · exact hqu1 u hu s'
          · subst hu; exact ns s'
        obtain ⟨σ4, ρ4, l1, l2, l3, -, -⟩ := z3.fin (n := n + 1) (by omega) (by omega) ⟨C, by omega, by rw [hB3.at 46 (by decide), hB.at 46 (by decide)]; exact hC2⟩ (fun _ => ⟨by rw [up_n (by omega)]; exact hl.2.1, fun u hu w1 w2 => by
          rw [hB3.at 14 (by decide)] at w2
          rw [up_n (by omega)]
          by_cases cu : u = t
          · subst cu
            rw [r14] at w2
            exact hnc w2
          · rw [g3 u cu] at w1
            exact hna1 u hu w1 w2⟩) (-10)
        rw [vB1_at l1, l2]
        exact jt_b rfl l3
    · rw [vB2_at f1, vB2_at f2, if_neg (show ¬ nI v = -10 from fun z => by
        have := nI_pos (n := v) (by omega)
        rw [z] at this
        exact this (by decide)), if_pos (nI_pos' (by omega)), if_neg (nI_pos (by omega))]
      have hB2 := te.2.1
      have m2 := te.gM m1
      have z2 : zM (1300 * n) σ2 ρ2 T P q := ⟨m2, (hb.ag hB (by decide)).ag hB2 (by decide), fun u hu s => by
        have hw := (m1.2.2.2.2.2.2.1.2.1 u).mp hu
        have cu : u ≠ t := fun z => by
          subst z
          rw [hB.at 7 (by decide), h0] at hw
          exact absurd hw.2 (by decide)
        exact hqu1 u hu (sat_.te te (by omega) cu s), (hJ.ag hB (by decide) rfl).ag hB2 (by decide) rfl, (hK.ag hB (by decide)).ag hB2 (by decide), (hL.ag hB (by decide)).ag hB2 (by decide)⟩
      obtain ⟨ρ', l1, l2⟩ := z2.fin0 (n := n + 1) (by omega) (hC_up hC (by rw [hB2.at 46 (by decide), hB.at 46 (by decide)])) (fun _ => ⟨hlk1.ag hB2 (by decide), hl.2.1, hna1.ag hB2 (by decide)⟩) (nI v)
      rw [l1]
      exact jt_b rfl l2
  unfold F_Mod_await_254
  rw [s16, s18]
  simp only [vG_at ht8 (show 8 < 2 ^ 31 by omega)]
  rw [(m.2.2.2.2.2.1 t ht).1]
  by_cases c : nI w < 2
  · rw [if_pos (v16i.mpr c), if_pos (i2.mpr c)]
    exact key (fun z => absurd c z)
  · rw [if_neg (fun z => c (v16i.mp z)), if_neg (fun z => c (i2.mp z))]
    by_cases c3 : q t = []
    · rw [c3, if_pos (show nI ([] : List Nat).length ≤ 0 by decide), if_pos (show nI ([] : List Nat).length ≤ 0 by decide)]
      exact key (fun _ => c3)
    · have hlen : 0 < (q t).length := List.length_pos_iff.mpr c3
      rw [if_neg (nI_nle hlen (by omega)), if_neg (nI_nle hlen (by omega))]
      obtain ⟨σ2, ρ2, g1, g2, m2, g3, g4⟩ := s_deliver mA ht c3
      rw [vB1_at g1, vB1_at g2]
      have z2 : zM (1300 * n) σ2 ρ2 T P (va_up q t []) := ⟨m2, hb.ag g4 (by decide), hqu.ag g4 (by decide) (fun u hu => by rw [up_n (by omega)] at hu; exact hu), hJ.ag g4 (by decide) (up_n (by omega)), hK.ag g4 (by decide), hL.ag g4 (by decide)⟩
      have hlk2 : lk_ ρ2 T (va_up q t []) := by
        have := hl.1.ag g4 (by decide)
        unfold lk_ at *
        exact ⟨fun z p hp => by rw [up_n (by omega)]; exact this.1 z p hp, fun t' p' y1 y2 y3 p'' y4 y5 => by rw [up_n (by omega)]; exact this.2 t' p' y1 y2 y3 p'' y4 y5⟩
      have hna2 : na_ ρ2 T (va_up q t []) := by
        intro u hu w1 w2
        rw [g4.at 7 (by decide)] at w1
        rw [g4.at 14 (by decide)] at w2
        by_cases cu : u = t
        · rw [cu, up_s]
        · rw [up_n cu]; exact hl.2.2 u hu w1 w2
      obtain ⟨ρ', l1, l2⟩ := z2.fin0 (n := n + 1) (by omega) (hC_up hC (g4.at 46 (by decide) 0 0)) (fun _ => ⟨hlk2, by rw [up_n (by omega)]; exact hl.2.1, hna2⟩) (-12)
      rw [vB2_at l1]
      exact jt_b rfl l2
/-- a type 5 or not -/
theorem d_ty5 {σ ρ : ed_S} {o : Nat} (ho : o < 16) (hob : ob_ σ ρ o) : ∃ y, (y = 0 ∨ y = 1) ∧ (y = 0 ↔ ¬ ρ 22 0 o = 5) ∧ F_Desk_isOfType (nI o) 5 5 σ = some (y, σ) := by
  obtain ⟨o1, o2, ⟨k, hk, o3⟩, -⟩ := hob
  refine ⟨if ρ 22 0 o = 5 then 1 else 0, ?_, ?_, ?_⟩
  · split <;> simp
  · by_cases c : ρ 22 0 o = 5
    · rw [if_pos c]; exact ⟨fun z => absurd z (by decide), fun z => absurd c z⟩
    · rw [if_neg c]; exact ⟨fun _ => c, fun _ => rfl⟩
  · unfold F_Desk_isOfType
    rw [if_neg (nI_m1 (by omega)), vG_at ho (by omega), vB2_at (d_is _ _ _ _), o2, o3]
    have : k = 0 ∨ k = 1 ∨ k = 2 ∨ k = 3 ∨ k = 4 ∨ k = 5 := by omega
    rcases this with rfl | rfl | rfl | rfl | rfl | rfl <;> rfl
theorem d_ty5n {σ : ed_S} : F_Desk_isOfType (-1) 5 5 σ = some (0, σ) := by
  unfold F_Desk_isOfType
  rw [if_pos rfl]
/-- an argument that may be left out: none, wrong, or a handle -/
theorem h_opt {σ ρ : ed_S} {T P p t : Nat} {q : Nat → List Nat} (m : gM σ ρ T P q) (hp : p < 4) (ht : t < 8) (hr : ρ 44 0 0 = nI t) (hh : ρ 5 0 t = nI p) (H : hd_ σ ρ p) (x : Int32) : (x = -1 ∧ F_Proc_objectOf p x σ = some (-1, σ) ∧ F_Proc_lacks p x 4 σ = some (0, σ)) ∨ (¬ x = -1 ∧ F_Proc_objectOf p x σ = some (-1, σ) ∧ F_Mod_isHandle x ρ = some (0, ρ)) ∨ ∃ o, o < 16 ∧ ¬ x = -1 ∧ F_Proc_objectOf p x σ = some (nI o, σ) ∧ F_Mod_isHandle x ρ = some (1, ρ) ∧ F_Mod_objectOf x ρ = some (nI o, ρ) ∧ ¬ hc_ ρ (nI o) = 0 ∧ ob_ σ ρ o ∧ ∃ y, (y = 0 ∨ y = 1) ∧ F_Proc_lacks p x 4 σ = some (y, σ) ∧ F_Mod_lacks x 4 ρ = some (y, ρ) := by
  rcases h_of hp ht hr hh H x with ⟨e1, e2⟩ | ⟨h, o, hh8, ho, rfl, h41, h3, e1, e2, e3, e4⟩
  · by_cases c : x = -1
    · refine Or.inl ⟨c, e1, ?_⟩
      unfold F_Proc_lacks
      rw [vB2_at e1, if_pos rfl]
    · exact Or.inr (Or.inl ⟨c, e1, e2⟩)
  · obtain ⟨z1, z2⟩ := hc_th (T := T) (q := q) (show 8 * p + h < 32 by omega) h3
    exact Or.inr (Or.inr ⟨o, ho, nI_m1 (by omega), e1, e2, e3, z1, (m.2.2.2.2.2.2.2.2.2.2.2.2.2.2 o ho z2).1, e4 4⟩)
theorem c_await (n : Nat) (x1 x2 x3 x4 x5 : Int32) (σ ρ : ed_S) (hn : n < 512) (hS : zS n σ ρ) : jt_ (zS (n + 1)) (F_Desk_await x1 x2 x3 x4 x5 σ) (F_Mod_await x1 x2 x3 x4 x5 ρ) := by
  have hS' := hS.mo
  obtain ⟨T, P, q, ⟨m, hb, hqu, hJ, hK, hL⟩, hC, ti, hl⟩ := hS
  unfold F_Desk_await F_Mod_await
  refine jt_run m hS' (fun t p hT ht hp hr hr5 hh hh8 h0 hpr H => ?_)
  rw [m.2.1.2.2.2.2.2.2.2.2.1]
  refine jt_if Iff.rfl (fun _ => jt_b rfl hS') (fun hlv => ?_)
  have hlv : ρ 47 0 0 = 0 := m.2.1.2.2.2.2.2.2.2.2.2.1.resolve_right hlv
  rw [vBr_at hpr hp, vB2_at (d_is _ _ _ _)]
  -- the reference's flags
  obtain ⟨f2, hf2⟩ : ∃ f : Int32, f = if x2 = -1 then 0 else 1 := ⟨_, rfl⟩
  obtain ⟨f3, hf3⟩ : ∃ f : Int32, f = if x3 = -1 then 0 else 1 := ⟨_, rfl⟩
  have eF : (if x2 = (-1) then (if x3 = (-1) then (F_Mod_await_43 x1 x2 x3 x4 x5 0 0 ρ) else (F_Mod_await_43 x1 x2 x3 x4 x5 0 1 ρ)) else (if x3 = (-1) then (F_Mod_await_43 x1 x2 x3 x4 x5 1 0 ρ) else (F_Mod_await_43 x1 x2 x3 x4 x5 1 1 ρ))) = F_Mod_await_43 x1 x2 x3 x4 x5 f2 f3 ρ := by
    rw [hf2, hf3]
    by_cases c2 : x2 = -1
    · rw [if_pos c2, if_pos c2]
      by_cases c3 : x3 = -1
      · rw [if_pos c3, if_pos c3]
      · rw [if_neg c3, if_neg c3]
    · rw [if_neg c2, if_neg c2]
      by_cases c3 : x3 = -1
      · rw [if_pos c3, if_pos c3]
      · rw [if_neg c3, if_neg c3]
  rw [eF]
  unfold F_Mod_await_43
  rw [vB2_at (m_is _ _ _ _)]
  rcases iw_c (x := x4) (b := 3) (n := 4) (by decide) (by omega) with h | ⟨w, hw, rfl, h⟩
  · rw [if_pos h, if_pos h]
    exact jt_b rfl hS'
  rw [if_neg h, if_neg h, vB2_at (d_is _ _ _ _), vB2_at (m_is _ _ _ _)]
  refine jt_if Iff.rfl (fun _ => jt_b rfl hS') (fun h5 => ?_)
  have hx5 : x5 = -1 ∨ ∃ k, k < 100 ∧ x5 = nI k := by
    unfold iw_ at h5
    by_cases c1 : x5 < -1
    · rw [if_pos c1] at h5; exact absurd rfl h5
    · rw [if_neg c1] at h5
      by_cases c2 : (99 : Int32) < x5
      · rw [if_pos c2] at h5; exact absurd rfl h5
      · by_cases c : x5 = -1
        · exact Or.inl c
        · have h0 : ¬ x5 < 0 := fun z => by
            rw [Int32.lt_iff_toInt_lt] at z c1
            have e1 : (-1 : Int32).toInt = -1 := by decide
            have e0 : (0 : Int32).toInt = 0 := by decide
            exact c (Int32.toInt_inj.mp (by omega))
          obtain ⟨j, hj, rfl⟩ := nI_of h0
          rw [show (99 : Int32) = nI 99 from rfl, nI_ltI (by omega) (by omega)] at c2
          exact Or.inr ⟨j, by omega, rfl⟩
  have hr5' : σ 5 0 0 = nI t := hr5
  -- no object
  have no1 : F_Proc_objectOf p x1 σ = some (-1, σ) → F_Desk_canBeAwaited p x1 x2 x3 σ = some (0, σ) := fun e => by
    unfold F_Desk_canBeAwaited
    rw [vB2_at e]
    rcases h_opt m hp ht hr hh H x2 with ⟨-, e2, -⟩ | ⟨-, e2, -⟩ | ⟨o2, -, -, e2, -⟩ <;> rcases h_opt m hp ht hr hh H x3 with ⟨-, e3, -⟩ | ⟨-, e3, -⟩ | ⟨o3, -, -, e3, -⟩ <;> rw [vB2_at e2, vB2_at e3, if_pos rfl]
  rcases h_of hp ht hr hh H x1 with ⟨e1, e2⟩ | ⟨hd1, o1, hh1, ho1, rfl, h41, h3, e1, e2, e3, e4⟩
  · rw [vB2_at (no1 e1), if_pos rfl, vB2_at e2, if_pos rfl]
    exact jt_b rfl hS'
  rw [vB2_at e2, if_neg (show ¬ (1 : Int32) = 0 by decide)]
  obtain ⟨hc1, hth1⟩ := hc_th (T := T) (q := q) (show 8 * p + hd1 < 32 by omega) h3
  have hob1 := (m.2.2.2.2.2.2.2.2.2.2.2.2.2.2 o1 ho1 hth1).1
  obtain ⟨y1, hy1, l1, l1'⟩ := e4 4
  obtain ⟨t1, ht1, ht1', et1⟩ := d_ty5 ho1 hob1
  have n1 : ¬ nI o1 = -1 := nI_m1 (by omega)
  have z10 : ((1 : Int32) = 0) = False := eq_false (by decide)
  have z21 : ((-1 : Int32) = -2) = False := eq_false (by decide)
  have vg1 : ∀ {α : Type} (f : Nat → Option α), vG (nI o1) 16 f = f o1 := fun f => vG_at ho1 (by omega)
  have vgt : ∀ {α : Type} (f : Nat → Option α), vG (nI t) 8 f = f t := fun f => vG_at ht (by omega)
  have n12 : ∀ o, o < 16 → ¬ nI o = -2 := fun o ho z => by
    have := nI_pos (n := o) (by omega)
    rw [z] at this
    exact this (by decide)
  have at1 : ¬ ρ 22 0 o1 = 5 → at_ ρ (nI o1) := fun z => Or.inr ⟨o1, ho1, rfl, hc1, z⟩
  have t1p : ρ 22 0 o1 = 5 → ¬ t1 = 0 := fun z w => ht1'.mp w z
  have l1 : F_Proc_lacks p (nI hd1) 4 σ = some (y1, σ) := l1
  have hl := hl hlv
  rcases h_opt m hp ht hr hh H x2 with ⟨c2, g2, k2⟩ | ⟨c2, g2, k2⟩ | ⟨o2, ho2, c2, g2, i2, j2, hc2, hob2, y2, hy2, k2, k2'⟩
  · rw [if_pos c2] at hf2
    subst c2
    rcases h_opt m hp ht hr hh H x3 with ⟨c3, g3, k3⟩ | ⟨c3, g3, k3⟩ | ⟨o3, ho3, c3, g3, i3, j3, hc3, hob3, y3, hy3, k3, k3'⟩
    · -- one object
      rw [if_pos c3] at hf3
      subst c3
      subst hf2
      subst hf3
      simp only [F_Desk_canBeAwaited, F_Desk_canBeAwaited_53, F_Mod_await_102, F_Mod_await_146, F_Mod_await_191, e1, e3, g2, k2, l1, l1', et1, d_ty5n, vB2, vg1, n1, z10, z21, n12 o1 ho1, if_true, if_false, hr5', vgt, hr]
      by_cases d1 : ρ 22 0 o1 = 5
      · simp only [d1, t1p d1, if_true, if_false, e1, e3, g2, k2, l1, l1', vB2, z10, hr5', vgt, hr]
        exact jt_b rfl hS'
      · simp only [d1, ht1'.mpr d1, if_true, if_false, e1, e3, g2, k2, l1, l1', vB2, z10, hr5', vgt, hr]
        by_cases dy : y1 = 0
        · simp only [dy, if_true, if_false, e1, e3, g2, k2, l1, l1', vB2, z10, hr5', vgt, hr]
          exact s_await hn m hb hqu hJ hK hL hC hlv hl hT hr h0 hw hx5 (at1 d1) (Or.inl rfl) (Or.inl rfl) (fun z => z) (fun z => z) (fun _ => rfl) (Or.inl ⟨rfl, rfl⟩)
        · simp only [dy, if_false, if_true, e1, e3, g2, k2, l1, l1', vB2, z10, hr5', vgt, hr]
          exact jt_b rfl hS'
    · -- the third is wrong
      rw [if_neg c3] at hf3
      subst hf2
      subst hf3
      simp only [F_Desk_canBeAwaited, e1, g2, g3, k3, vB2, n1, c3, z10, if_true, if_false]
      exact jt_b rfl hS'
    · -- the first and the third
      rw [if_neg c3] at hf3
      subst hf2
      subst hf3
      obtain ⟨t3, ht3, ht3', et3⟩ := d_ty5 ho3 hob3
      have n3 : ¬ nI o3 = -1 := nI_m1 (by omega)
      have n3' : ((-1 : Int32) = nI o3) = False := eq_false (fun z => n3 z.symm)
      have vg3 : ∀ {α : Type} (f : Nat → Option α), vG (nI o3) 16 f = f o3 := fun f => vG_at ho3 (by omega)
      simp only [F_Desk_canBeAwaited, F_Desk_canBeAwaited_53, F_Mod_await_102, F_Mod_await_146, F_Mod_await_191, e1, e3, g2, g3, i3, j3, k2, k3, k3', l1, l1', et1, et3, d_ty5n, vB2, vg1, vg3, n1, n3, n3', z10, if_true, if_false, hr5', vgt, hr]
      by_cases d1 : ρ 22 0 o1 = 5
      · simp only [d1, t1p d1, if_true, if_false, e1, e3, g2, g3, i3, j3, k2, k3, k3', l1, l1', vB2, z10, hr5', vgt, hr]
        exact jt_b rfl hS'
      · simp only [d1, ht1'.mpr d1, if_true, if_false, e1, e3, g2, g3, i3, j3, k2, k3, k3', l1, l1', vB2, z10, hr5', vgt, hr]
        by_cases d3 : ρ 22 0 o3 = 5
        · have : ¬ t3 = 0 := fun w => ht3'.mp w d3
          simp only [d3, this, if_true, if_false, e1, e3, g2, g3, i3, j3, k2, k3, k3', l1, l1', vB2, z10, hr5', vgt, hr]
          exact jt_b rfl hS'
        · simp only [d3, ht3'.mpr d3, if_true, if_false, e1, e3, g2, g3, i3, j3, k2, k3, k3', l1, l1', vB2, z10, hr5', vgt, hr]
          by_cases q13 : nI o1 = nI o3
          · simp only [q13, if_true, if_false, e1, e3, g2, g3, i3, j3, k2, k3, k3', l1, l1', vB2, z10, hr5', vgt, hr]
            exact jt_b rfl hS'
          · simp only [q13, if_false, if_true, e1, e3, g2, g3, i3, j3, k2, k3, k3', l1, l1', vB2, z10, hr5', vgt, hr]
            by_cases dy : y1 = 0
            · simp only [dy, if_true, if_false, e1, e3, g2, g3, i3, j3, k2, k3, k3', l1, l1', vB2, z10, hr5', vgt, hr]
              by_cases dy3 : y3 = 0
              · simp only [dy3, if_true, if_false, e1, e3, g2, g3, i3, j3, k2, k3, k3', l1, l1', vB2, z10, hr5', vgt, hr]
                exact s_await hn m hb hqu hJ hK hL hC hlv hl hT hr h0 hw hx5 (at1 d1) (Or.inl rfl) (Or.inr ⟨o3, ho3, rfl, hc3, d3⟩) (fun z => z) (fun z => absurd z q13) (fun _ => rfl) (Or.inr ⟨of_eq_false z10, rfl⟩)
              · simp only [dy3, if_false, if_true, e1, e3, g2, g3, i3, j3, k2, k3, k3', l1, l1', vB2, z10, hr5', vgt, hr]
                exact jt_b rfl hS'
            · simp only [dy, if_false, if_true, e1, e3, g2, g3, i3, j3, k2, k3, k3', l1, l1', vB2, z10, hr5', vgt, hr]
              exact jt_b rfl hS'
  · -- the second is wrong
    rw [if_neg c2] at hf2
    subst hf2
    rcases h_opt m hp ht hr hh H x3 with ⟨c3, g3, k3⟩ | ⟨c3, g3, k3⟩ | ⟨o3, ho3, c3, g3, i3, j3, hc3, hob3, y3, hy3, k3, k3'⟩ <;> (simp only [F_Desk_canBeAwaited, e1, g2, g3, k2, vB2, n1, c2, z10, if_true, if_false]; exact jt_b rfl hS')
  · rw [if_neg c2] at hf2
    subst hf2
    obtain ⟨t2, ht2, ht2', et2⟩ := d_ty5 ho2 hob2
    have n2 : ¬ nI o2 = -1 := nI_m1 (by omega)
    have vg2 : ∀ {α : Type} (f : Nat → Option α), vG (nI o2) 16 f = f o2 := fun f => vG_at ho2 (by omega)
    rcases h_opt m hp ht hr hh H x3 with ⟨c3, g3, k3⟩ | ⟨c3, g3, k3⟩ | ⟨o3, ho3, c3, g3, i3, j3, hc3, hob3, y3, hy3, k3, k3'⟩
    · -- the first and the second
      rw [if_pos c3] at hf3
      subst c3
      subst hf3
      simp only [F_Desk_canBeAwaited, F_Desk_canBeAwaited_53, F_Mod_await_102, F_Mod_await_146, F_Mod_await_191, e1, e3, g2, g3, i2, j2, k2, k2', k3, l1, l1', et1, et2, d_ty5n, vB2, vg1, vg2, n1, n2, n12 o1 ho1, n12 o2 ho2, z10, if_true, if_false, hr5', vgt, hr]
      by_cases d1 : ρ 22 0 o1 = 5
      · simp only [d1, t1p d1, if_true, if_false, e1, e3, g2, g3, i2, j2, k2, k2', k3, l1, l1', vB2, z10, hr5', vgt, hr]
        exact jt_b rfl hS'
      · simp only [d1, ht1'.mpr d1, if_true, if_false, e1, e3, g2, g3, i2, j2, k2, k2', k3, l1, l1', vB2, z10, hr5', vgt, hr]
        by_cases d2 : ρ 22 0 o2 = 5
        · have : ¬ t2 = 0 := fun w => ht2'.mp w d2
          simp only [d2, this, if_true, if_false, e1, e3, g2, g3, i2, j2, k2, k2', k3, l1, l1', vB2, z10, hr5', vgt, hr]
          exact jt_b rfl hS'
        · simp only [d2, ht2'.mpr d2, if_true, if_false, e1, e3, g2, g3, i2, j2, k2, k2', k3, l1, l1', vB2, z10, hr5', vgt, hr]
          by_cases q12 : nI o1 = nI o2
          · simp only [q12, if_true, if_false, e1, e3, g2, g3, i2, j2, k2, k2', k3, l1, l1', vB2, z10, hr5', vgt, hr]
            exact jt_b rfl hS'
          · simp only [q12, if_false, if_true, e1, e3, g2, g3, i2, j2, k2, k2', k3, l1, l1', vB2, z10, hr5', vgt, hr]
            by_cases dy : y1 = 0
            · simp only [dy, if_true, if_false, e1, e3, g2, g3, i2, j2, k2, k2', k3, l1, l1', vB2, z10, hr5', vgt, hr]
              by_cases dy2 : y2 = 0
              · simp only [dy2, if_true, if_false, e1, e3, g2, g3, i2, j2, k2, k2', k3, l1, l1', vB2, z10, hr5', vgt, hr]
                exact s_await hn m hb hqu hJ hK hL hC hlv hl hT hr h0 hw hx5 (at1 d1) (Or.inr ⟨o2, ho2, rfl, hc2, d2⟩) (Or.inl rfl) (fun z => absurd z q12) (fun z => z) (fun z => z) (Or.inl ⟨rfl, rfl⟩)
              · simp only [dy2, if_false, if_true, e1, e3, g2, g3, i2, j2, k2, k2', k3, l1, l1', vB2, z10, hr5', vgt, hr]
                exact jt_b rfl hS'
            · simp only [dy, if_false, if_true, e1, e3, g2, g3, i2, j2, k2, k2', k3, l1, l1', vB2, z10, hr5', vgt, hr]
              exact jt_b rfl hS'
    · -- the third is wrong
      rw [if_neg c3] at hf3
      subst hf3
      simp only [F_Desk_canBeAwaited, e1, g2, g3, i2, k3, vB2, n1, n2, c3, z10, if_true, if_false]
      exact jt_b rfl hS'
    · -- all three
      rw [if_neg c3] at hf3
      subst hf3
      obtain ⟨t3, ht3, ht3', et3⟩ := d_ty5 ho3 hob3
      have n3 : ¬ nI o3 = -1 := nI_m1 (by omega)
      have vg3 : ∀ {α : Type} (f : Nat → Option α), vG (nI o3) 16 f = f o3 := fun f => vG_at ho3 (by omega)
      simp only [F_Desk_canBeAwaited, F_Desk_canBeAwaited_53, F_Mod_await_102, F_Mod_await_146, F_Mod_await_191, e1, e3, g2, g3, i2, i3, j2, j3, k2, k2', k3, k3', l1, l1', et1, et2, et3, vB2, vg1, vg2, vg3, n1, n2, n3, z10, if_true, if_false, hr5', vgt, hr]
      by_cases d1 : ρ 22 0 o1 = 5
      · simp only [d1, t1p d1, if_true, if_false, e1, e3, g2, g3, i2, i3, j2, j3, k2, k2', k3, k3', l1, l1', vB2, z10, hr5', vgt, hr]
        exact jt_b rfl hS'
      · simp only [d1, ht1'.mpr d1, if_true, if_false, e1, e3, g2, g3, i2, i3, j2, j3, k2, k2', k3, k3', l1, l1', vB2, z10, hr5', vgt, hr]
        by_cases d2 : ρ 22 0 o2 = 5
        · have : ¬ t2 = 0 := fun w => ht2'.mp w d2
          simp only [d2, this, if_true, if_false, e1, e3, g2, g3, i2, i3, j2, j3, k2, k2', k3, k3', l1, l1', vB2, z10, hr5', vgt, hr]
          exact jt_b rfl hS'
        · simp only [d2, ht2'.mpr d2, if_true, if_false, e1, e3, g2, g3, i2, i3, j2, j3, k2, k2', k3, k3', l1, l1', vB2, z10, hr5', vgt, hr]
          by_cases d3 : ρ 22 0 o3 = 5
          · have : ¬ t3 = 0 := fun w => ht3'.mp w d3
            simp only [d3, this, if_true, if_false, e1, e3, g2, g3, i2, i3, j2, j3, k2, k2', k3, k3', l1, l1', vB2, z10, hr5', vgt, hr]
            exact jt_b rfl hS'
          · simp only [d3, ht3'.mpr d3, if_true, if_false, e1, e3, g2, g3, i2, i3, j2, j3, k2, k2', k3, k3', l1, l1', vB2, z10, hr5', vgt, hr]
            by_cases q12 : nI o1 = nI o2
            · simp only [q12, if_true, if_false, e1, e3, g2, g3, i2, i3, j2, j3, k2, k2', k3, k3', l1, l1', vB2, z10, hr5', vgt, hr]
              exact jt_b rfl hS'
            · simp only [q12, if_false, if_true, e1, e3, g2, g3, i2, i3, j2, j3, k2, k2', k3, k3', l1, l1', vB2, z10, hr5', vgt, hr]
              by_cases q13 : nI o1 = nI o3
              · simp only [q13, if_true, if_false, e1, e3, g2, g3, i2, i3, j2, j3, k2, k2', k3, k3', l1, l1', vB2, z10, hr5', vgt, hr]
                exact jt_b rfl hS'
              · simp only [q13, if_false, if_true, e1, e3, g2, g3, i2, i3, j2, j3, k2, k2', k3, k3', l1, l1', vB2, z10, hr5', vgt, hr]
                by_cases q23 : nI o2 = nI o3
                · simp only [q23, if_true, if_false, e1, e3, g2, g3, i2, i3, j2, j3, k2, k2', k3, k3', l1, l1', vB2, z10, hr5', vgt, hr]
                  exact jt_b rfl hS'
                · simp only [q23, if_false, if_true, e1, e3, g2, g3, i2, i3, j2, j3, k2, k2', k3, k3', l1, l1', vB2, z10, hr5', vgt, hr]
                  by_cases dy : y1 = 0
                  · simp only [dy, if_true, if_false, e1, e3, g2, g3, i2, i3, j2, j3, k2, k2', k3, k3', l1, l1', vB2, z10, hr5', vgt, hr]
                    by_cases dy2 : y2 = 0
                    · simp only [dy2, if_true, if_false, e1, e3, g2, g3, i2, i3, j2, j3, k2, k2', k3, k3', l1, l1', vB2, z10, hr5', vgt, hr]
                      by_cases dy3 : y3 = 0
                      · simp only [dy3, if_true, if_false, e1, e3, g2, g3, i2, i3, j2, j3, k2, k2', k3, k3', l1, l1', vB2, z10, hr5', vgt, hr]
                        exact s_await hn m hb hqu hJ hK hL hC hlv hl hT hr h0 hw hx5 (at1 d1) (Or.inr ⟨o2, ho2, rfl, hc2, d2⟩) (Or.inr ⟨o3, ho3, rfl, hc3, d3⟩) (fun z => absurd z q12) (fun z => absurd z q13) (fun z => absurd z q23) (Or.inr ⟨of_eq_false z10, rfl⟩)
                      · simp only [dy3, if_false, if_true, e1, e3, g2, g3, i2, i3, j2, j3, k2, k2', k3, k3', l1, l1', vB2, z10, hr5', vgt, hr]
                        exact jt_b rfl hS'
                    · simp only [dy2, if_false, if_true, e1, e3, g2, g3, i2, i3, j2, j3, k2, k2', k3, k3', l1, l1', vB2, z10, hr5', vgt, hr]
                      exact jt_b rfl hS'
                  · simp only [dy, if_false, if_true, e1, e3, g2, g3, i2, i3, j2, j3, k2, k2', k3, k3', l1, l1', vB2, z10, hr5', vgt, hr]
                    exact jt_b rfl hS'
