/-! ===== the pure part: close, rule, open ===== -/
theorem zS.keep {n b : Nat} {ρ σ' ρ' : ed_S} {T P : Nat} {q' : Nat → List Nat} (z : zM b σ' ρ' T P q') (hb : b ≤ 1300 * (n + 1)) (hC : ∃ C, C ≤ 9 * n ∧ ρ 46 0 0 = nI C) (h46 : ρ' 46 0 0 = ρ 46 0 0) (ti : ti_ ρ' T q') (hl : ρ' 47 0 0 = 0 → lk_ ρ' T q' ∧ q' 33 = [] ∧ na_ ρ' T q') : zS (n + 1) σ' ρ' := by
  obtain ⟨C, h1, h2⟩ := hC
  exact ⟨T, P, q', z.mo hb, ⟨C, by omega, by rw [h46]; exact h2⟩, ti, hl⟩
theorem hC_up {n : Nat} {ρ ρ' : ed_S} (hC : ∃ C, C ≤ 9 * n ∧ ρ 46 0 0 = nI C) (h46 : ρ' 46 0 0 = ρ 46 0 0) : ∃ C, C ≤ 9 * (n + 1) ∧ ρ' 46 0 0 = nI C := by
  obtain ⟨C, h1, h2⟩ := hC
  exact ⟨C, by omega, by rw [h46]; exact h2⟩
theorem jt_run {Z : ed_S → ed_S → Prop} {σ ρ : ed_S} {T P : Nat} {q : Nat → List Nat} (m : gM σ ρ T P q) {A B : Option (Int32 × ed_S)} (hZ : Z σ ρ) (h : ∀ t p, t < T → t < 8 → p < 4 → ρ 44 0 0 = nI t → σ 5 0 0 = nI t → ρ 5 0 t = nI p → σ 8 t 0 = nI p → ρ 7 0 t = 0 → F_Desk_processOfRunning σ = some (p, σ) → hd_ σ ρ p → jt_ Z A B) : jt_ Z (if σ 5 0 0 = -1 then some (-3, σ) else A) (if 0 ≤ ρ 44 0 0 then B else some (-3, ρ)) := by
  rcases g_run m with ⟨h1, h2⟩ | ⟨t, p, h1, h2, h3, h4, h5, h6, h7, h8, h9, h10⟩
  · rw [if_pos h1, h2, if_neg (by decide)]
    exact jt_b rfl hZ
  · rw [if_neg (by rw [h5]; exact nI_m1 (by omega)), if_pos (show 0 ≤ ρ 44 0 0 by rw [h4]; exact nI_pos' (by omega))]
    exact h t p h1 h2 h3 h4 h5 h6 h7 h8 h9 h10
theorem c_clse (n : Nat) (x1 : Int32) (σ ρ : ed_S) (hn : n < 512) (hS : zS n σ ρ) : jt_ (zS (n + 1)) (F_Desk_clse x1 σ) (F_Mod_clse x1 ρ) := by
  have hS' := hS.mo
  obtain ⟨T, P, q, ⟨m, hb, hqu, hJ, hK, hL⟩, hC, ti, hl⟩ := hS
  unfold F_Desk_clse F_Mod_clse
  refine jt_run m hS' (fun t p hT ht hp hr hr5 hh hh8 h0 hpr H => ?_)
  rw [vBr_at hpr hp]
  rcases h_of hp ht hr hh H x1 with ⟨e1, e2⟩ | ⟨h, o, hh8, ho, rfl, h41, h3, e1, e2, e3, -⟩
  · rw [vB2_at e1, vB2_at e2, if_pos rfl, if_pos rfl]
    exact jt_b rfl hS'
  · rw [vB2_at e1, vB2_at e2, if_neg (nI_m1 (by omega)), if_neg (by decide), vB2_at e3, hr, vG_at ht (by omega), hh, ix8, vG_at (by omega) (by omega)]
    obtain ⟨σ', f1, m', hA, hB, h24⟩ := g_drop m hp hh8 ho h3
    obtain ⟨ρ1, hρ1⟩ : ∃ z, z = ed_st ρ 3 0 (8 * p + h) (-1) := ⟨_, rfl⟩
    rw [← hρ1] at m' hB h24
    simp only [vL]
    rw [← hρ1, vB1_at f1, vG_at ho (by omega), vB2_at (m_handles _ _)]
    have zm : zM (1300 * (n + 1)) σ' ρ1 T P q := ⟨m', (hb.ag hB (by decide)).mo (by omega), hqu.ag hB (by decide) (fun _ z => z), hJ.ag hB (by decide) rfl, hK.ag hB (by decide), hL.ag hB (by decide)⟩
    obtain ⟨ρ', f2, f3⟩ := zm.fin0 (Nat.le_refl _) (hC_up hC (hB.at 46 (by decide) 0 0)) (fun z => by
      rw [hB.at 47 (by decide)] at z
      obtain ⟨z1, z2, z3⟩ := hl z
      exact ⟨z1.ag hB (by decide), z2, z3.ag hB (by decide)⟩) (nI (hc_ ρ1 (nI o)))
    rw [vB2_at f2]
    exact jt_b h24 f3
theorem iw_1 {x : Int32} (h : ¬ iw_ x 1 7 = 0) : ∃ r, 0 < r ∧ r < 8 ∧ x = nI r := by
  unfold iw_ at h
  by_cases c1 : x < 1
  · rw [if_pos c1] at h
    exact absurd rfl h
  · rw [if_neg c1] at h
    by_cases c2 : (7 : Int32) < x
    · rw [if_pos c2] at h
      exact absurd rfl h
    · have h0 : ¬ x < 0 := fun z => c1 (by
        rw [Int32.lt_iff_toInt_lt] at *
        have e1 : (1 : Int32).toInt = 1 := by decide
        have e0 : (0 : Int32).toInt = 0 := by decide
        omega)
      obtain ⟨j, hj, rfl⟩ := nI_of h0
      refine ⟨j, ?_, ?_, rfl⟩
      · rw [show (1 : Int32) = nI 1 from rfl, nI_ltI (by omega) (by omega)] at c1
        omega
      · rw [show (7 : Int32) = nI 7 from rfl, nI_ltI (by omega) (by omega)] at c2
        omega
theorem c_rule (n : Nat) (x1 x2 x3 x4 : Int32) (σ ρ : ed_S) (hn : n < 512) (hS : zS n σ ρ) : jt_ (zS (n + 1)) (F_Desk_rule x1 x2 x3 x4 σ) (F_Mod_rule x1 x2 x3 x4 ρ) := by
  have hS' := hS.mo
  obtain ⟨T, P, q, ⟨m, hb, hqu, hJ, hK, hL⟩, hC, ti, hl⟩ := hS
  unfold F_Desk_rule F_Mod_rule
  refine jt_run m hS' (fun t p hT ht hp hr hr5 hh hh8 h0 hpr H => ?_)
  rw [vBr_at hpr hp]
  rcases h_of hp ht hr hh H x1 with ⟨e1, e2⟩ | ⟨h, o, hh8, ho, rfl, h41, h3, e1, e2, e3, e4⟩
  · rw [vB2_at e1, vB2_at e2, if_pos rfl, if_pos rfl]
    exact jt_b rfl hS'
  · rw [vB2_at e1, vB2_at e2, if_neg (nI_m1 (by omega)), if_neg (by decide)]
    rw [vB2_at (d_is _ _ _ _), vB2_at (m_is _ _ _ _)]
    rcases iw_c (x := x2) (b := 1) (n := 2) (by decide) (by omega) with w | ⟨a, ha, rfl, w⟩
    · rw [if_pos w, if_pos w]
      exact jt_b rfl hS'
    rw [if_neg w, if_neg w, vB2_at (d_is _ _ _ _), vB2_at (m_is _ _ _ _)]
    rcases iw_c (x := x3) (b := 7) (n := 8) (by decide) (by omega) with w | ⟨g, hg, rfl, w⟩
    · rw [if_pos w, if_pos w]
      exact jt_b rfl hS'
    rw [if_neg w, if_neg w, vB2_at (d_is _ _ _ _), vB2_at (m_is _ _ _ _)]
    by_cases w : iw_ x4 1 7 = 0
    · rw [if_pos w, if_pos w]
      exact jt_b rfl hS'
    rw [if_neg w, if_neg w]
    obtain ⟨r, hr0, hr8, rfl⟩ := iw_1 w
    obtain ⟨y, hy, f1, f2⟩ := e4 2
    rw [vB2_at f1, vB2_at f2]
    refine jt_if Iff.rfl (fun _ => ?_) (fun _ => jt_b rfl hS')
    rw [vB2_at e3]
    simp only [vG_at ho (show 16 < 2 ^ 31 by omega)]
    have hth := (hc_th (T := T) (q := q) (show 8 * p + h < 32 by omega) h3).2
    have hob := (m.2.2.2.2.2.2.2.2.2.2.2.2.2.2 o ho hth).1
    have hob' := hob
    obtain ⟨o1, o2, o3, o4, o5, o6, o7, o8, o9, o10, o11, o12, o13, ⟨z, hz, o14, o15⟩, o16⟩ := hob
    rw [o13, o14]
    refine jt_if Iff.rfl (fun _ => jt_b rfl hS') (fun c => ?_)
    have hz4 : z < 4 := by
      rcases Nat.lt_or_ge z 4 with w | w
      · exact w
      · exact absurd (show nI z = 4 by rw [show z = 4 by omega]; rfl) c
    have ea : F_Rul_append o (nI a) (nI g) (nI r) σ = some (ed_st (ed_st (ed_st (ed_st σ 43 o z (nI a)) 44 o z (nI g)) 45 o z (nI r)) 30 o 0 (nI (z + 1))) := by
      unfold F_Rul_append
      rw [o13, o14, if_neg (by rw [show (4 : Int32) = nI 4 from rfl]; exact nI_ge hz4 (by omega)), vG_at hz4 (by omega)]
      simp only [vL]
      rw [ed_st_n (show ¬ (30 = 43 ∧ o = o ∧ 0 = z) by omega), o13, o14, vG_at hz4 (by omega)]
      rw [ed_st_n (show ¬ (30 = 44 ∧ o = o ∧ 0 = z) by omega), ed_st_n (show ¬ (30 = 43 ∧ o = o ∧ 0 = z) by omega), o13, o14, vG_at hz4 (by omega)]
      rw [ed_st_n (show ¬ (30 = 45 ∧ o = o ∧ 0 = z) by omega), ed_st_n (show ¬ (30 = 44 ∧ o = o ∧ 0 = z) by omega), ed_st_n (show ¬ (30 = 43 ∧ o = o ∧ 0 = z) by omega), o13, o14, nI_1]
    rw [vB1_at ea, ed_st_s]
    simp only [vL, ix4, vG_at (show 4 * o + z < 64 by omega) (show 64 < 2 ^ 31 by omega)]
    rw [nI_1]
    obtain ⟨σ', hσ'⟩ : ∃ w, w = ed_st (ed_st (ed_st (ed_st σ 43 o z (nI a)) 44 o z (nI g)) 45 o z (nI r)) 30 o 0 (nI (z + 1)) := ⟨_, rfl⟩
    obtain ⟨ρ', hρ'⟩ : ∃ w, w = ed_st (ed_st (ed_st (ed_st ρ 27 0 o (nI (z + 1))) 28 0 (4 * o + z) (nI a)) 29 0 (4 * o + z) (nI g)) 30 0 (4 * o + z) (nI r) := ⟨_, rfl⟩
    rw [← hσ', ← hρ']
    have hA : ag_ σ σ' [30, 43, 44, 45] := by rw [hσ']; exact (((ag_.rf.st (by decide)).st (by decide)).st (by decide)).st (by decide)
    have hB : ag_ ρ ρ' [27, 28, 29, 30] := by rw [hρ']; exact (((ag_.rf.st (by decide)).st (by decide)).st (by decide)).st (by decide)
    have r27 : ∀ u, ρ' 27 0 u = if u = o then nI (z + 1) else ρ 27 0 u := fun u => by rw [hρ']; simp [ed_st]
    have r28 : ∀ u, ρ' 28 0 u = if u = 4 * o + z then nI a else ρ 28 0 u := fun u => by rw [hρ']; simp [ed_st]
    have r29 : ∀ u, ρ' 29 0 u = if u = 4 * o + z then nI g else ρ 29 0 u := fun u => by rw [hρ']; simp [ed_st]
    have r30 : ∀ u, ρ' 30 0 u = if u = 4 * o + z then nI r else ρ 30 0 u := fun u => by rw [hρ']; simp [ed_st]
    have s30 : ∀ u, σ' 30 u 0 = if u = o then nI (z + 1) else σ 30 u 0 := fun u => by rw [hσ']; simp [ed_st]
    have s43 : ∀ u k, σ' 43 u k = if u = o ∧ k = z then nI a else σ 43 u k := fun u k => by rw [hσ']; simp [ed_st]
    have s44 : ∀ u k, σ' 44 u k = if u = o ∧ k = z then nI g else σ 44 u k := fun u k => by rw [hσ']; simp [ed_st]
    have s45 : ∀ u k, σ' 45 u k = if u = o ∧ k = z then nI r else σ 45 u k := fun u k => by rw [hσ']; simp [ed_st]
    have m' : gM σ' ρ' T P q := m.ob (hA.mo (by decide)) (hB.mo (by decide)) (fun u hu _ hou => by
      obtain ⟨b1, b2, b3, b4, b5, b6, b7, b8, b9, b10, b11, b12, b13, ⟨y, hy, b14, b15⟩, b16⟩ := hou
      unfold ob_
      simp only [hA.at 22 (by decide), hA.at 26 (by decide), hA.at 27 (by decide), hA.at 28 (by decide), hA.at 29 (by decide), hB.at 19 (by decide), hB.at 20 (by decide), hB.at 21 (by decide), hB.at 22 (by decide), hB.at 24 (by decide), hB.at 25 (by decide), hB.at 26 (by decide)]
      refine ⟨b1, b2, b3, b4, b5, b6, b7, b8, b9, b10, b11, b12, ?_, ?_, b16⟩
      · rw [s30, r27, b13]
      · by_cases cu : u = o
        · subst cu
          refine ⟨z + 1, by omega, by rw [r27, if_pos rfl], fun k hk => ?_⟩
          rw [s43, s44, s45, r28, r29, r30]
          by_cases ck : k = z
          · subst ck
            rw [if_pos ⟨rfl, rfl⟩, if_pos rfl, if_pos ⟨rfl, rfl⟩, if_pos rfl, if_pos ⟨rfl, rfl⟩, if_pos rfl]
            exact ⟨rfl, rfl, rfl⟩
          · rw [if_neg (by omega), if_neg (by omega), if_neg (by omega), if_neg (by omega), if_neg (by omega), if_neg (by omega)]
            exact o15 k (by omega)
        · refine ⟨y, hy, by rw [r27, if_neg cu]; exact b14, fun k hk => ?_⟩
          rw [s43, s44, s45, r28, r29, r30, if_neg (by omega), if_neg (by omega), if_neg (by omega), if_neg (by omega), if_neg (by omega), if_neg (by omega)]
          exact b15 k hk)
    have hK' : gK ρ' := by
      refine ⟨by simp only [hB.at 0 (by decide)]; exact hK.1, fun k hk => ?_⟩
      rw [r28, r29, r30]
      by_cases c : k = 4 * o + z
      · rw [if_pos c, if_pos c, if_pos c]
        refine ⟨?_, ⟨g, hg, rfl⟩, ⟨r, hr8, rfl⟩⟩
        rcases Nat.lt_or_ge a 1 with w | w
        · exact Or.inl (by rw [show a = 0 by omega]; rfl)
        · exact Or.inr (by rw [show a = 1 by omega]; rfl)
      · rw [if_neg c, if_neg c, if_neg c]
        exact hK.2 k hk
    refine jt_b (by rw [r27, if_pos rfl]) (zS.keep (b := 1300 * (n + 1)) ⟨m', (hb.ag hB (by decide)).mo (by omega), hqu.ag hB (by decide) (fun _ z => z), hJ.ag hB (by decide) rfl, hK', hL.ag hB (by decide)⟩ (Nat.le_refl _) hC (hB.at 46 (by decide) 0 0) (ti.ag hB (by decide)) (fun z => ?_))
    rw [hB.at 47 (by decide)] at z
    obtain ⟨z1, z2, z3⟩ := hl z
    exact ⟨z1.ag hB (by decide), z2, z3.ag hB (by decide)⟩
/-- the object with a name -/
theorem s_named {σ ρ : ed_S} {T P : Nat} {q : Nat → List Nat} {x : Int32} (m : gM σ ρ T P q) (ti : ti_ ρ T q) (hx : ¬ x < 0) : ∀ (n k : Nat), 16 < n + k → k ≤ 16 → ∃ y, F_Desk_objectNamed_2 n x (nI k) σ = some (y, σ) ∧ F_Mod_named_2 n x (nI k) ρ = some (y, ρ) ∧ (y = -1 ∨ ∃ o, o < 16 ∧ y = nI o ∧ ¬ hc_ ρ (nI o) = 0) := by
  intro n
  induction n with
  | zero => intro k h1 h2; omega
  | succ n ih =>
    intro k h1 h2
    rcases Nat.lt_or_ge k 16 with hk | hk
    · have hx1 : ¬ (-1 : Int32) = x := fun z => hx (by rw [← z]; decide)
      have e1 : F_Desk_objectNamed_2 (n + 1) x (nI k) σ = vB2 (F_Obj_currentName k σ) fun r8 σ6 => if r8 = x then some (nI k, σ6) else F_Desk_objectNamed_2 n x (nI (k + 1)) σ6 := by
        show (if (16 : Int32) ≤ nI k then _ else _) = _
        rw [if_neg (by rw [show (16 : Int32) = nI 16 from rfl]; exact nI_ge hk (by omega)), vG_at hk (by omega), nI_1]
      have e2 : F_Mod_named_2 (n + 1) x (nI k) ρ = if ρ 19 0 k = 0 then F_Mod_named_2 n x (nI (k + 1)) ρ else if ρ 23 0 k = x then some (nI k, ρ) else F_Mod_named_2 n x (nI (k + 1)) ρ := by
        show (if (16 : Int32) ≤ nI k then _ else _) = _
        rw [if_neg (by rw [show (16 : Int32) = nI 16 from rfl]; exact nI_ge hk (by omega)), vG_at hk (by omega), nI_1, if_neg hx, vG_at hk (by omega)]
      obtain ⟨n1, n2⟩ := m.2.2.2.2.2.2.2.2.2.2.2.2.1 k hk
      have hle := hc_lt ρ (nI k)
      by_cases c : hc_ ρ (nI k) = 0
      · have e3 : F_Obj_currentName k σ = some (-1, σ) := by
          unfold F_Obj_currentName
          rw [n1, c, if_pos (by decide)]
        rw [e1, vB2_at e3, if_neg hx1, e2]
        by_cases c2 : ρ 19 0 k = 0
        · rw [if_pos c2]
          exact ih (k + 1) (by omega) (by omega)
        · have h19 : ρ 19 0 k = 1 := (m.2.2.2.2.2.2.2.2.2.2.2.2.2.1 k hk).resolve_left c2
          have hnm := (ti k hk).2 (((ti k hk).1).mp h19) c
          rw [if_neg c2, if_neg (by rw [hnm]; exact hx1)]
          exact ih (k + 1) (by omega) (by omega)
      · have hth : th_ ρ T q k := fun z => c z.1
        have hnm := (m.2.2.2.2.2.2.2.2.2.2.2.2.2.2 k hk hth).2 c
        have e3 : F_Obj_currentName k σ = some (ρ 23 0 k, σ) := by
          unfold F_Obj_currentName
          rw [n1, if_neg (nI_nle (by omega) (by omega)), hnm]
        rw [e1, vB2_at e3, e2, if_neg (show ¬ ρ 19 0 k = 0 by rw [((ti k hk).1).mpr hth]; decide)]
        by_cases c2 : ρ 23 0 k = x
        · rw [if_pos c2, if_pos c2]
          exact ⟨_, rfl, rfl, Or.inr ⟨k, hk, rfl, c⟩⟩
        · rw [if_neg c2, if_neg c2]
          exact ih (k + 1) (by omega) (by omega)
    · have hk8 : k = 16 := by omega
      subst hk8
      exact ⟨-1, rfl, rfl, Or.inl rfl⟩
theorem bit_ : ∀ G, G < 256 → ∀ g, g < 8 → ((nI G &&& ((1 : Int32) <<< (nI g &&& 31))) = 0 ↔ ((nI G >>> (nI g &&& 31)) &&& 1) = 0) := by decide +kernel
theorem msk_ : ∀ w, w < 8 → ∀ r, r < 8 → ∃ v, v < 8 ∧ nI w &&& (nI r ^^^ (-1)) = nI v := by decide +kernel
theorem s_grants {σ ρ : ed_S} {o t p z G : Nat} {x1 x2 : Int32} (ho : o < 16) (ht : t < 8) (hp : p < 4) (hr : ρ 44 0 0 = nI t) (hh : ρ 5 0 t = nI p) (hG : G < 256) (hg : ρ 0 0 p = nI G) (hK : gK ρ) (hz : z ≤ 4) (h30 : σ 30 o 0 = nI z) (h27 : ρ 27 0 o = nI z) (hk : ∀ k, k < z → σ 43 o k = ρ 28 0 (4 * o + k) ∧ σ 44 o k = ρ 29 0 (4 * o + k) ∧ σ 45 o k = ρ 30 0 (4 * o + k)) : ∀ (n k w : Nat), z < n + k → k ≤ z → w < 8 → ∃ y, (y = 0 ∨ y = 1) ∧ F_Rul_grants_5 n o (nI G) x2 (nI w) (nI k) σ = some (y, σ) ∧ F_Mod_opn_51 n x1 x2 (nI o) (nI w) (nI k) ρ = if y = 0 then some (-5, ρ) else (vB2 (F_Mod_freeHandle ρ) fun r8 σ6 => (if 0 ≤ r8 then (vB2 (F_Mod_use r8 (nI o) x2 σ6) fun r12 σ10 => (some (r12, σ10))) else (some ((-2), σ6)))) := by
  intro n
  induction n with
  | zero => intro k w h1 h2; omega
  | succ n ih =>
    intro k w h1 h2 hw
    have w0 : nI w ≤ 0 ↔ w = 0 := by
      rw [show (0 : Int32) = nI 0 from rfl, nI_leI (by omega) (by omega)]
      omega
    have w00 : nI w = 0 ↔ w = 0 := by
      rw [show (0 : Int32) = nI 0 from rfl, nI_eq (by omega) (by omega)]
    have z00 : nI z = 0 ↔ z = 0 := by
      rw [show (0 : Int32) = nI 0 from rfl, nI_eq (by omega) (by omega)]
    have z0 : nI z ≤ 0 ↔ z = 0 := by
      rw [show (0 : Int32) = nI 0 from rfl, nI_leI (by omega) (by omega)]
      omega
    have hend : ∃ y, (y = 0 ∨ y = 1) ∧ (if nI z = 0 then some ((1 : Int32), σ) else (if nI w = 0 then some (1, σ) else some (0, σ))) = some (y, σ) ∧ F_Mod_opn_162 x1 x2 (nI o) (nI w) (nI k) ρ = if y = 0 then some (-5, ρ) else (vB2 (F_Mod_freeHandle ρ) fun r8 σ6 => (if 0 ≤ r8 then (vB2 (F_Mod_use r8 (nI o) x2 σ6) fun r12 σ10 => (some (r12, σ10))) else (some ((-2), σ6)))) := by
      unfold F_Mod_opn_162
      rw [vG_at ho (by omega), h27]
      by_cases c1 : z = 0
      · rw [if_pos (z00.mpr c1), if_pos (z0.mpr c1)]
        exact ⟨1, Or.inr rfl, rfl, rfl⟩
      · rw [if_neg (fun v => c1 (z00.mp v)), if_neg (fun v => c1 (z0.mp v))]
        by_cases c2 : w = 0
        · rw [if_pos (w00.mpr c2), if_pos (w0.mpr c2)]
          exact ⟨1, Or.inr rfl, rfl, rfl⟩
        · rw [if_neg (fun v => c2 (w00.mp v)), if_neg (fun v => c2 (w0.mp v))]
          exact ⟨0, Or.inl rfl, rfl, rfl⟩
    have e1 : F_Rul_grants_5 (n + 1) o (nI G) x2 (nI w) (nI k) σ = (if nI z ≤ nI k then (if nI z = 0 then some ((1 : Int32), σ) else (if nI w = 0 then some (1, σ) else some (0, σ))) else (if nI w = 0 then (if nI z = 0 then some ((1 : Int32), σ) else (if nI w = 0 then some (1, σ) else some (0, σ))) else (vG (nI k) 4 fun j7 => (if (nI G &&& (1 <<< ((σ 44 o j7) &&& 31))) = 0 then (F_Rul_grants_5 n o (nI G) x2 (nI w) (nI (k + 1)) σ) else (vG (nI k) 4 fun j12 => (if (σ 43 o j12) = 1 then (vG (nI k) 4 fun j22 => (F_Rul_grants_5 n o (nI G) x2 (nI w &&& ((σ 45 o j22) ^^^ (-1))) (nI (k + 1)) σ)) else (vG (nI k) 4 fun j17 => (if (nI w &&& (σ 45 o j17)) = 0 then (F_Rul_grants_5 n o (nI G) x2 (nI w) (nI (k + 1)) σ) else (some (0, σ)))))))))) := by
      rw [← nI_1, ← h30]
      rfl
    have e2 : F_Mod_opn_51 (n + 1) x1 x2 (nI o) (nI w) (nI k) ρ = (if nI z ≤ nI k then F_Mod_opn_162 x1 x2 (nI o) (nI w) (nI k) ρ else (if nI w ≤ 0 then F_Mod_opn_162 x1 x2 (nI o) (nI w) (nI k) ρ else (vG (nI (4 * o + k)) 64 fun j15 => (if ((nI G >>> ((ρ 29 0 j15) &&& 31)) &&& 1) = 0 then (F_Mod_opn_51 n x1 x2 (nI o) (nI w) (nI (k + 1)) ρ) else (vG (nI (4 * o + k)) 64 fun j20 => (if (ρ 28 0 j20) = 0 then (vG (nI (4 * o + k)) 64 fun j25 => (if ((ρ 30 0 j25) &&& nI w) = 0 then (F_Mod_opn_131 (F_Mod_opn_51 n) x1 x2 (nI o) (nI w) (nI k) (nI (4 * o + k)) ρ) else (some ((-5), ρ)))) else (F_Mod_opn_131 (F_Mod_opn_51 n) x1 x2 (nI o) (nI w) (nI k) (nI (4 * o + k)) ρ))))))) := by
      show (vG (nI o) 16 fun j1 => _) = _
      rw [vG_at ho (by omega), h27, hr, vG_at ht (by omega), hh, vG_at hp (by omega), hg, ix4, nI_1]
    have e3 : F_Mod_opn_131 (F_Mod_opn_51 n) x1 x2 (nI o) (nI w) (nI k) (nI (4 * o + k)) ρ = vG (nI (4 * o + k)) 64 fun j1 => (if (ρ 28 0 j1) = 1 then (vG (nI (4 * o + k)) 64 fun j6 => (F_Mod_opn_51 n x1 x2 (nI o) (nI w &&& ((ρ 30 0 j6) ^^^ (-1))) (nI (k + 1)) ρ)) else (F_Mod_opn_51 n x1 x2 (nI o) (nI w) (nI (k + 1)) ρ)) := by
      rw [← nI_1]
      rfl
    rw [e1, e2, e3]
    rcases Nat.lt_or_ge k z with hkz | hkz
    · rw [if_neg (nI_ge hkz (by omega)), if_neg (nI_ge hkz (by omega))]
      by_cases c2 : w = 0
      · rw [if_pos (w00.mpr c2), if_pos (w0.mpr c2)]
        have := hend
        rw [if_pos (w00.mpr c2)] at this
        rw [if_pos (w00.mpr c2)]
        exact this
      · rw [if_neg (fun v => c2 (w00.mp v)), if_neg (fun v => c2 (w0.mp v))]
        simp only [vG_at (show k < 4 by omega) (show 4 < 2 ^ 31 by omega), vG_at (show 4 * o + k < 64 by omega) (show 64 < 2 ^ 31 by omega)]
        obtain ⟨k1, k2, k3⟩ := hk k hkz
        obtain ⟨r1, ⟨g, hg8, r2⟩, ⟨r, hr8, r3⟩⟩ := hK.2 (4 * o + k) (by omega)
        rw [k1, k2, k3, r2, r3]
        have hbit := bit_ G hG g hg8
        by_cases c3 : (nI G &&& ((1 : Int32) <<< (nI g &&& 31))) = 0
        · rw [if_pos c3, if_pos (hbit.mp c3)]
          exact ih (k + 1) w (by omega) (by omega) hw
        · rw [if_neg c3, if_neg (fun v => c3 (hbit.mpr v))]
          rcases r1 with r1 | r1
          · rw [r1, if_neg (show ¬ (0 : Int32) = 1 by decide), if_pos rfl, if_neg (show ¬ (0 : Int32) = 1 by decide), Int32.and_comm (nI w) (nI r)]
            by_cases c4 : nI r &&& nI w = 0
            · rw [if_pos c4, if_pos c4]
              exact ih (k + 1) w (by omega) (by omega) hw
            · rw [if_neg c4, if_neg c4]
              exact ⟨0, Or.inl rfl, rfl, rfl⟩
          · rw [r1, if_pos rfl, if_neg (show ¬ (1 : Int32) = 0 by decide), if_pos rfl]
            obtain ⟨v, hv, ev⟩ := msk_ w hw r hr8
            rw [ev]
            exact ih (k + 1) v (by omega) (by omega) hv
    · rw [if_pos (nI_le hkz (by omega)), if_pos (nI_le hkz (by omega))]
      exact hend
theorem c_opn (n : Nat) (x1 x2 : Int32) (σ ρ : ed_S) (hn : n < 512) (hS : zS n σ ρ) : jt_ (zS (n + 1)) (F_Desk_opn x1 x2 σ) (F_Mod_opn x1 x2 ρ) := by
  have hS' := hS.mo
  obtain ⟨T, P, q, ⟨m, hb, hqu, hJ, hK, hL⟩, hC, ti, hl⟩ := hS
  unfold F_Desk_opn F_Mod_opn
  refine jt_run m hS' (fun t p hT ht hp hr hr5 hh hh8 h0 hpr H => ?_)
  rw [vB2_at (d_is _ _ _ _), vB2_at (m_is _ _ _ _)]
  rcases iw_c (x := x1) (b := 15) (n := 16) (by decide) (by omega) with w | ⟨a, ha, rfl, w⟩
  · rw [if_pos w, if_pos w]
    exact jt_b rfl hS'
  rw [if_neg w, if_neg w, vB2_at (d_is _ _ _ _), vB2_at (m_is _ _ _ _)]
  by_cases w : iw_ x2 1 7 = 0
  · rw [if_pos w, if_pos w]
    exact jt_b rfl hS'
  rw [if_neg w, if_neg w]
  obtain ⟨r, hr0, hr8, rfl⟩ := iw_1 w
  obtain ⟨y, e1, e2, e3⟩ := s_named (x := nI a) m ti (nI_pos (by omega)) ed_fu 0 (by show _ < 64 + 0; omega) (by omega)
  have e1 : F_Desk_objectNamed (nI a) σ = some (y, σ) := e1
  have e2 : F_Mod_named (nI a) ρ = some (y, ρ) := e2
  rw [vB2_at e1, vB2_at e2]
  rcases e3 with rfl | ⟨o, ho, rfl, hco⟩
  · rw [if_pos rfl, if_neg (show ¬ (0 : Int32) ≤ -1 by decide)]
    exact jt_b rfl hS'
  rw [if_neg (nI_m1 (by omega)), if_pos (nI_pos' (by omega)), vBr_at hpr hp, vG_at ho (by omega)]
  obtain ⟨hob, hnm⟩ := m.2.2.2.2.2.2.2.2.2.2.2.2.2.2 o ho (fun z => hco z.1)
  have hob' := hob
  obtain ⟨o1, o2, o3, o4, o5, o6, o7, o8, o9, o10, o11, o12, o13, ⟨z, hz, o14, o15⟩, o16⟩ := hob
  obtain ⟨G, hG, hG2⟩ := hK.1 p hp
  have h19 := (m.2.2.2.2.2.2.2.2.2.2.2.1 p hp).1
  rw [h19, hG2]
  obtain ⟨y, hy, f1, f2⟩ := s_grants (x1 := nI a) (x2 := nI r) ho ht hp hr hh hG hG2 hK hz (by rw [o13, o14]) o14 o15 ed_fu 0 r (by show _ < 64 + 0; omega) (by omega) hr8
  have f1 : F_Rul_grants o (nI G) (nI r) σ = some (y, σ) := f1
  have f2 : F_Mod_opn_51 ed_fu (nI a) (nI r) (nI o) (nI r) 0 ρ = _ := f2
  rw [vB2_at f1, f2]
  refine jt_if Iff.rfl (fun _ => jt_b rfl hS') (fun _ => ?_)
  obtain ⟨x, g1, g2, g3⟩ := s_freeHandle hp ht hr hh H ed_fu 0 (by show _ < 64 + 0; omega) (by omega)
  have g1 : F_Proc_freeHandle p σ = some (x, σ) := g1
  have g2 : F_Mod_freeHandle ρ = some (x, ρ) := g2
  rw [vB2_at g1, vB2_at g2]
  rcases g3 with rfl | ⟨h, hh8, rfl, h41⟩
  · rw [if_pos rfl, if_neg (show ¬ (0 : Int32) ≤ -1 by decide)]
    exact jt_b rfl hS'
  rw [if_neg (nI_m1 (by omega)), if_pos (nI_pos' (by omega))]
  obtain ⟨σ', ρ', k1, k2, m', hA, hB, k3⟩ := g_give (r := nI r) m hp ht hr hh hh8 ho h41 hob' (hnm hco)
  rw [vB1_at k1, vB2_at k2]
  refine jt_b rfl (zS.keep (b := 1300 * (n + 1)) ⟨m', (hb.ag hB (by decide)).mo (by omega), hqu.ag hB (by decide) (fun _ z => z), hJ.ag hB (by decide) rfl, hK.ag hB (by decide), hL.ag hB (by decide)⟩ (Nat.le_refl _) hC (hB.at 46 (by decide) 0 0) (k3 (fun u hu _ => ti u hu)) (fun z => ?_))
  rw [hB.at 47 (by decide)] at z
  obtain ⟨z1, z2, z3⟩ := hl z
  exact ⟨z1.ag hB (by decide), z2, z3.ag hB (by decide)⟩
