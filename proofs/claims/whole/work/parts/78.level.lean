/-! ===== the pure part: interrupt, level ===== -/
/-- an interrupt is kept -/
theorem s_queue {b T P o : Nat} {σ ρ : ed_S} {q : Nat → List Nat} {x2 : Int32} (z : zM b σ ρ T P q) (ti : ti_ ρ T q) (ho : o < 16) (hth : th_ ρ T q o) (h5 : ρ 22 0 o = 5) (hx : x2 = 0 ∨ x2 = 1) (hlt : (q 33).length < 8) : ∃ σ1 σ' ρ' v, F_Row_addLast 33 (if x2 = 0 then nI o else nI o + 16) σ = some σ1 ∧ σ' = ed_st σ1 25 o 0 (σ1 25 o 0 + 1) ∧ ρ' = ed_st (ed_st (ed_st ρ 40 0 (q 33).length (nI o)) 48 0 0 (nI ((q 33).length + 1))) 41 0 (q 33).length x2 ∧ zM b σ' ρ' T P (va_up q 33 (q 33 ++ [v])) ∧ ti_ ρ' T (va_up q 33 (q 33 ++ [v])) ∧ ag_ ρ ρ' [40, 41, 48] := by
  obtain ⟨⟨nQ, nA, nT, nU, nR, nC, nW, nD, nX, nV, nI', nP, nH, nO⟩, k2, k3, k4, k5, k6⟩ := z
  obtain ⟨v, hv⟩ : ∃ v, v = if x2 = 0 then o else o + 16 := ⟨_, rfl⟩
  have ev : (if x2 = 0 then nI o else nI o + 16) = nI v := by
    rw [hv]
    split
    · rfl
    · exact nI_add o 16
  have hv32 : v < 32 := by rw [hv]; split <;> omega
  have hvm : v % 16 = o := by rw [hv]; split <;> omega
  obtain ⟨K, hK⟩ : ∃ K, K = (q 33).length := ⟨_, rfl⟩
  have hrow := nQ 33 (by omega)
  have hcap : ed_cap 33 = 8 := if_neg (by omega)
  obtain ⟨σ1, e1, f1, g1⟩ := row_addLast (x := v) hrow (by omega)
  rw [← ev] at e1
  obtain ⟨σ', hσ'⟩ : ∃ w, w = ed_st σ1 25 o 0 (σ1 25 o 0 + 1) := ⟨_, rfl⟩
  obtain ⟨ρ', hρ'⟩ : ∃ w, w = ed_st (ed_st (ed_st ρ 40 0 (q 33).length (nI o)) 48 0 0 (nI ((q 33).length + 1))) 41 0 (q 33).length x2 := ⟨_, rfl⟩
  have a1 : ag_ σ σ1 [18, 39] := ag_.rf.fr f1 (by decide) (by decide)
  have a : ag_ σ σ' [18, 25, 39] := by rw [hσ']; exact (a1.mo (by decide)).st (by decide)
  have b' : ag_ ρ ρ' [40, 41, 48] := by rw [hρ']; exact ((ag_.rf.st (by decide)).st (by decide)).st (by decide)
  have r40 : ∀ j, ρ' 40 0 j = if j = K then nI o else ρ 40 0 j := fun j => by rw [hρ', hK]; simp [ed_st]
  have r41 : ∀ j, ρ' 41 0 j = if j = K then x2 else ρ 41 0 j := fun j => by rw [hρ', hK]; simp [ed_st]
  have r48 : ρ' 48 0 0 = nI (K + 1) := by rw [hρ', hK]; simp [ed_st]
  have s25 : ∀ u, σ' 25 u 0 = if u = o then σ 25 u 0 + 1 else σ 25 u 0 := fun u => by
    rw [hσ']
    by_cases c : u = o
    · subst c
      rw [ed_st_s, if_pos rfl, a1.at 25 (by decide)]
    · rw [ed_st_n (by omega), if_neg c, a1.at 25 (by decide)]
  obtain ⟨q', hq'⟩ : ∃ w, w = va_up q 33 (q 33 ++ [v]) := ⟨_, rfl⟩
  have qn : ∀ r, r ≠ 33 → q' r = q r := fun r hr => by rw [hq', up_n hr]
  have qs : q' 33 = q 33 ++ [v] := by rw [hq', up_s]
  have ql : (q' 33).length = K + 1 := by rw [qs, List.length_append, hK]; rfl
  have hhc : ∀ u, hc_ ρ' u = hc_ ρ u := fun u => hc_.ag b' (by decide) u
  have hpc : ∀ u, pc_ ρ' T (K + 1) u = pc_ ρ T K u + if nI o = u then 1 else 0 := fun u => by
    unfold pc_
    rw [cn_s K (pi_ ρ' u), cn_congr (c := pw_ ρ' u) (d := pw_ ρ u) (fun j _ => by simp only [pw_, b'.at 7 (by decide), b'.at 17 (by decide)]), cn_congr (c := pd_ ρ' u) (d := pd_ ρ u) (fun j _ => by simp only [pd_, b'.at 31 (by decide), b'.at 34 (by decide)]), cn_congr (c := ps_ ρ' u) (d := ps_ ρ u) (fun j _ => by simp only [ps_, b'.at 31 (by decide), b'.at 36 (by decide)]), cn_congr (n := K) (c := pi_ ρ' u) (d := pi_ ρ u) (fun j hj => by simp only [pi_]; rw [r40, if_neg (by omega)])]
    have : pi_ ρ' u K = decide (nI o = u) := by simp only [pi_]; rw [r40, if_pos rfl]
    rw [this]
    simp only [decide_eq_true_eq]
    omega
  have hthe : ∀ u, u < 16 → (th_ ρ' T q' u ↔ th_ ρ T q u) := fun u hu => by
    by_cases c : u = o
    · subst c
      constructor
      · intro _; exact hth
      · intro _ w
        rw [hhc, ql, hpc, if_pos rfl] at w
        omega
    · unfold th_
      rw [hhc, ql, hpc, if_neg (fun w => c ((nI_eq (by omega) (by omega)).mp w).symm), ← hK]
      rfl
  refine ⟨σ1, σ', ρ', v, e1, hσ', hρ', ?_, ?_, b'⟩
  · rw [← hq']
    refine ⟨⟨?_, nA.ag a b' (by decide) (by decide), nT.ag a b' (by decide) (by decide), ?_, nR.ag b' (by decide), ?_, (nW.ag a b' (by decide) (by decide)).q (qn 32 (by omega)), (nD.ag b' (by decide)).q (fun p _ => qn _ (by omega)), nX.ag a b' (by decide) (by decide), (nV.ag b' (by decide)).q (fun o _ => qn _ (by omega)), ?_, nP.ag a b' (by decide) (by decide), ?_, ?_⟩, k2.ag b' (by decide), k3.ag b' (by decide) (fun t ht => by rw [qn 32 (by omega)] at ht; exact ht), ?_, k5.ag b' (by decide), k6.ag b' (by decide)⟩
    · intro r hr
      rw [hq', hσ']
      exact (nQ.up f1 g1 r hr).st (by decide) (by decide)
    · intro u hu hu8
      rw [qn u (by omega)]
      exact (nU.ag a b' (by decide) (by decide)) u hu hu8
    · intro u hu
      have hT8 := nA.2.1
      rw [qn u (by omega)]
      exact (nC.ag b' (by decide)) u hu
    · refine ⟨by rw [r48, ql], fun j w hj => ?_⟩
      rw [qs] at hj
      rw [r40, r41]
      rcases Nat.lt_or_ge j (q 33).length with hj2 | hj2
      · rw [List.getElem?_append_left hj2] at hj
        rw [if_neg (by omega), if_neg (by omega)]
        exact nI'.2 j w hj
      · have hjl := (List.getElem?_eq_some_iff.mp hj).1
        rw [List.length_append] at hjl
        simp only [List.length_singleton] at hjl
        have hje : j = (q 33).length := by omega
        subst hje
        rw [List.getElem?_append_right (Nat.le_refl _), Nat.sub_self] at hj
        simp at hj
        subst hj
        rw [if_pos hK.symm, if_pos hK.symm, hvm]
        refine ⟨hv32, rfl, ?_⟩
        rcases hx with hx | hx
        · have : v < 16 := by rw [hv, if_pos hx]; exact ho
          rw [if_pos this]; exact hx
        · have : ¬ v < 16 := by rw [hv, if_neg (by rw [hx]; decide)]; omega
          rw [if_neg this]; exact hx
    · intro u hu
      obtain ⟨n1, n2⟩ := nH u hu
      rw [hhc, a.at 24 (by decide), ql, hpc, s25, n2, ← hK]
      refine ⟨n1, ?_⟩
      by_cases c : u = o
      · subst c
        rw [if_pos rfl, if_pos rfl, nI_1]
      · rw [if_neg c, if_neg (fun w => c ((nI_eq (by omega) (by omega)).mp w).symm)]
        rfl
    · refine ⟨fun u hu => by rw [b'.at 19 (by decide)]; exact nO.1 u hu, fun u hu h => ?_⟩
      obtain ⟨x, y⟩ := nO.2 u hu ((hthe u hu).mp h)
      refine ⟨x.ag a b' (by decide) (by decide), fun w => ?_⟩
      rw [hhc] at w
      rw [a.at 23 (by decide), b'.at 23 (by decide)]
      exact y w
    · refine ⟨?_, fun w hw => ?_⟩
      · simp only [b'.at 31 (by decide), b'.at 36 (by decide), b'.at 22 (by decide)]
        exact k4.1
      · rw [b'.at 22 (by decide)]
        rw [qs, List.mem_append, List.mem_singleton] at hw
        rcases hw with hw | hw
        · exact k4.2 w hw
        · rw [hw, hvm]; exact h5
  · rw [← hq']
    intro u hu
    rw [hthe u hu, hhc, b'.at 19 (by decide), b'.at 23 (by decide)]
    exact ti u hu
theorem c_interrupt (n : Nat) (x1 x2 : Int32) (σ ρ : ed_S) (hn : n < 512) (hx : x2 = 0 ∨ x2 = 1) (hS : zS n σ ρ) : jt_ (zS (n + 1)) (F_Desk_interrupt x1 x2 σ) (F_Mod_interrupt x1 x2 ρ) := by
  have hS' := hS.mo
  obtain ⟨T, P, q, z, hC, ti, hl⟩ := hS
  have m := z.1
  have hK8 := m.K
  unfold F_Desk_interrupt F_Mod_interrupt F_Desk_isThere
  rw [vB2_at (d_is _ _ _ _), vB2_at (m_is _ _ _ _)]
  rcases iw_c (x := x1) (b := 15) (n := 16) (by decide) (by omega) with w | ⟨o, ho, rfl, w⟩
  · rw [if_pos w, if_pos w]
    simp only [vB2]
    rw [if_pos trivial]
    exact jt_b rfl hS'
  rw [if_neg w, if_neg w]
  simp only [vG_at ho (show 16 < 2 ^ 31 by omega)]
  rcases d_there m ho with ⟨c1, c2⟩ | ⟨c1, c2⟩
  · rw [c2]
    simp only [vB2]
    rw [if_neg (show ¬ (1 : Int32) = 0 by decide)]
    simp only []
    rw [if_neg (show ¬ (1 : Int32) = 0 by decide), if_neg (show ¬ ρ 19 0 o = 0 by rw [((ti o ho).1).mpr c1]; decide)]
    have hob := (m.2.2.2.2.2.2.2.2.2.2.2.2.2.2 o ho c1).1
    rw [hob.2.1]
    refine jt_if Iff.rfl (fun h5 => ?_) (fun _ => jt_b rfl hS')
    rw [m.2.1.2.2.2.2.2.2.2.2.1]
    refine jt_if Iff.rfl (fun h0 => ?_) (fun h0 => ?_)
    · obtain ⟨σ', ρ', q', e1, e2, z', f⟩ := s_finish (x2 := x2) z ho h5 (by omega)
      obtain ⟨σ2, ρ2, l1, l2, l3⟩ := fi_fin z' f m.2.1.2.1 hn (by omega) hC (fun w => (hl w).2) 1
      rw [vB1_at e1, vB1_at l1, vB1_at e2, l2]
      exact jt_b rfl l3
    · have hI := m.2.2.2.2.2.2.2.2.2.2.1.1
      rw [(m.1 33 (by omega)).1, hI]
      refine jt_if Iff.rfl (fun _ => jt_b rfl hS') (fun c8 => ?_)
      have hlt : (q 33).length < 8 := by
        rcases Nat.lt_or_ge (q 33).length 8 with y | y
        · exact y
        · exact absurd (show nI (q 33).length = 8 by rw [show (q 33).length = 8 by omega]; rfl) c8
      obtain ⟨σ1, σ', ρ', v, e1, e2, e3, z', ti', b'⟩ := s_queue z ti ho c1 h5 hx hlt
      rw [vG_at hlt (by omega)]
      simp only [vL]
      rw [ed_st_n (show ¬ (48 = 40 ∧ 0 = 0 ∧ 0 = (q 33).length) by omega), hI, nI_1, vC_at hx, vG_at hlt (by omega), ← e3]
      have hfin : zS (n + 1) σ' ρ' := zS.keep (z'.mo (show 1300 * n ≤ 1300 * (n + 1) by omega)) (Nat.le_refl _) hC (b'.at 46 (by decide) 0 0) ti' (fun y => by
        rw [b'.at 47 (by decide)] at y
        exact absurd y h0)
      by_cases cx : x2 = 0
      · rw [if_pos cx] at e1
        rw [if_pos cx, vB1_at e1, ← e2]
        exact jt_b rfl hfin
      · rw [if_neg cx] at e1
        rw [if_neg cx, vB1_at e1, ← e2]
        exact jt_b rfl hfin
  · have h0 : ρ 19 0 o = 0 := (m.2.2.2.2.2.2.2.2.2.2.2.2.2.1 o ho).resolve_right (fun y => c1 (((ti o ho).1).mp y))
    rw [c2]
    simp only [vB2]
    rw [if_pos h0]
    simp only [if_true]
    exact jt_b rfl hS'
theorem cn_sh (f : Nat → Bool) : ∀ K, cn_ (K + 1) f = cn_ K (fun j => f (j + 1)) + (if f 0 then 1 else 0) := by
  intro K
  induction K with
  | zero => rfl
  | succ K ih => rw [cn_s, ih, cn_s]; omega
/-- the reference's kept interrupts move up -/
theorem m_shift {K : Nat} {ρ : ed_S} (hK : K < 8) (h48 : ρ 48 0 0 = nI K) (h41 : ∀ j, j < K + 1 → ρ 41 0 j = 0 ∨ ρ 41 0 j = 1) (K35 : Int32 → Int32 → ed_S → Option (Int32 × ed_S)) (x1 x2 x3 x4 : Int32) : ∀ (n k : Nat) (ρk : ed_S), K < n + k → k ≤ K → ag_ ρ ρk [40, 41] → (∀ j, j < k → ρk 40 0 j = ρ 40 0 (j + 1) ∧ ρk 41 0 j = ρ 41 0 (j + 1)) → (∀ j, k ≤ j → ρk 40 0 j = ρ 40 0 j ∧ ρk 41 0 j = ρ 41 0 j) → ∃ ρ', F_Mod_level_70 K35 n x1 x2 x3 x4 (nI k) ρk = (vB1 (F_Mod_finish x3 x4 ρ') fun σ2 => K35 x1 x2 σ2) ∧ ag_ ρ ρ' [40, 41] ∧ ∀ j, j < K → ρ' 40 0 j = ρ 40 0 (j + 1) ∧ ρ' 41 0 j = ρ 41 0 (j + 1) := by
  intro n
  induction n with
  | zero => intro k ρk h1 h2; omega
  | succ n ih =>
    intro k ρk h1 h2 hA hB hC
    have h48k : ρk 48 0 0 = nI K := by rw [hA.at 48 (by decide)]; exact h48
    rcases Nat.lt_or_ge k K with hk | hk
    · have e : F_Mod_level_70 K35 (n + 1) x1 x2 x3 x4 (nI k) ρk = F_Mod_level_70 K35 n x1 x2 x3 x4 (nI (k + 1)) (ed_st (ed_st ρk 40 0 k (ρ 40 0 (k + 1))) 41 0 k (ρ 41 0 (k + 1))) := by
        show (if ρk 48 0 0 ≤ nI k then _ else _) = _
        rw [h48k, if_neg (nI_ge hk (by omega)), nI_1, vG_at (by omega) (by omega), vG_at (by omega) (by omega)]
        simp only [vL]
        rw [vG_at (by omega) (by omega), ed_st_n (show ¬ (41 = 40 ∧ 0 = 0 ∧ k + 1 = k) by omega), (hC (k + 1) (by omega)).1, (hC (k + 1) (by omega)).2, vC_at (h41 (k + 1) (by omega)), vG_at (by omega) (by omega)]
      rw [e]
      refine ih (k + 1) _ (by omega) (by omega) ((hA.st (by decide)).st (by decide)) (fun j hj => ?_) (fun j hj => ?_)
      · by_cases c : j = k
        · subst c
          rw [ed_st_n (by omega), ed_st_s, ed_st_s]
          exact ⟨rfl, rfl⟩
        · rw [ed_st_n (by omega), ed_st_n (by omega), ed_st_n (by omega), ed_st_n (by omega)]
          exact hB j (by omega)
      · rw [ed_st_n (by omega), ed_st_n (by omega), ed_st_n (by omega), ed_st_n (by omega)]
        exact hC j (by omega)
    · have hke : k = K := by omega
      subst hke
      refine ⟨ρk, ?_, hA, hB⟩
      show (if ρk 48 0 0 ≤ nI k then _ else _) = _
      rw [h48k, if_pos (le_rf _)]
/-- a kept interrupt is taken -/
theorem s_taken {b T P v : Nat} {σ ρ ρ' : ed_S} {q : Nat → List Nat} {l : List Nat} (z : zM b σ ρ T P q) (hq : q 33 = v :: l) (h48 : ρ' 48 0 0 = nI l.length) (b' : ag_ ρ ρ' [40, 41, 48]) (hj : ∀ j, j < l.length → ρ' 40 0 j = ρ 40 0 (j + 1) ∧ ρ' 41 0 j = ρ 41 0 (j + 1)) : ∃ σ1 σ', F_Row_removeFirst 33 σ = some (nI v, σ1) ∧ σ' = ed_st σ1 25 (v % 16) 0 (σ1 25 (v % 16) 0 - 1) ∧ zM b σ' ρ' T P (va_up q 33 l) ∧ ag_ σ σ' [18, 25, 39] := by
  obtain ⟨⟨nQ, nA, nT, nU, nR, nC, nW, nD, nX, nV, nI', nP, nH, nO⟩, k2, k3, k4, k5, k6⟩ := z
  have hrow := nQ 33 (by omega)
  rw [hq] at hrow
  obtain ⟨σ1, e1, f1, g1⟩ := row_removeFirst hrow
  obtain ⟨hv, i40, i41⟩ := nI'.2 0 v (by rw [hq]; rfl)
  obtain ⟨σ', hσ'⟩ : ∃ w, w = ed_st σ1 25 (v % 16) 0 (σ1 25 (v % 16) 0 - 1) := ⟨_, rfl⟩
  have a1 : ag_ σ σ1 [18, 39] := ag_.rf.fr f1 (by decide) (by decide)
  have a : ag_ σ σ' [18, 25, 39] := by rw [hσ']; exact (a1.mo (by decide)).st (by decide)
  have s25 : ∀ u, σ' 25 u 0 = if u = v % 16 then σ 25 u 0 - 1 else σ 25 u 0 := fun u => by
    rw [hσ']
    by_cases c : u = v % 16
    · rw [c, ed_st_s, if_pos rfl, a1.at 25 (by decide)]
    · rw [ed_st_n (by omega), if_neg c, a1.at 25 (by decide)]
  obtain ⟨q', hq'⟩ : ∃ w, w = va_up q 33 l := ⟨_, rfl⟩
  have qn : ∀ r, r ≠ 33 → q' r = q r := fun r hr => by rw [hq', up_n hr]
  have qs : q' 33 = l := by rw [hq', up_s]
  have hhc : ∀ u, hc_ ρ' u = hc_ ρ u := fun u => hc_.ag b' (by decide) u
  have hpc : ∀ u, pc_ ρ T (q 33).length u = pc_ ρ' T (q' 33).length u + if nI (v % 16) = u then 1 else 0 := fun u => by
    rw [hq, qs]
    unfold pc_
    rw [List.length_cons, cn_sh (pi_ ρ u) l.length, cn_congr (c := pw_ ρ' u) (d := pw_ ρ u) (fun j _ => by simp only [pw_, b'.at 7 (by decide), b'.at 17 (by decide)]), cn_congr (c := pd_ ρ' u) (d := pd_ ρ u) (fun j _ => by simp only [pd_, b'.at 31 (by decide), b'.at 34 (by decide)]), cn_congr (c := ps_ ρ' u) (d := ps_ ρ u) (fun j _ => by simp only [ps_, b'.at 31 (by decide), b'.at 36 (by decide)]), cn_congr (n := l.length) (c := pi_ ρ' u) (d := fun j => pi_ ρ u (j + 1)) (fun j hj' => by simp only [pi_]; rw [(hj j hj').1])]
    have : pi_ ρ u 0 = decide (nI (v % 16) = u) := by simp only [pi_]; rw [i40]
    rw [this]
    simp only [decide_eq_true_eq]
    omega
  refine ⟨σ1, σ', e1, hσ', ?_, a⟩
  rw [← hq']
  refine ⟨⟨?_, nA.ag a b' (by decide) (by decide), nT.ag a b' (by decide) (by decide), ?_, nR.ag b' (by decide), ?_, (nW.ag a b' (by decide) (by decide)).q (qn 32 (by omega)), (nD.ag b' (by decide)).q (fun p _ => qn _ (by omega)), nX.ag a b' (by decide) (by decide), (nV.ag b' (by decide)).q (fun o _ => qn _ (by omega)), ?_, nP.ag a b' (by decide) (by decide), ?_, nO.less a b' (by decide) (by decide) hhc (fun u => by have := hpc u; omega)⟩, k2.ag b' (by decide), k3.ag b' (by decide) (fun t ht => by rw [qn 32 (by omega)] at ht; exact ht), ?_, k5.ag b' (by decide), k6.ag b' (by decide)⟩
  · intro r hr
    rw [hq', hσ']
    exact (nQ.up f1 g1 r hr).st (by decide) (by decide)
  · intro u hu hu8
    rw [qn u (by omega)]
    exact (nU.ag a b' (by decide) (by decide)) u hu hu8
  · intro u hu
    have hT8 := nA.2.1
    rw [qn u (by omega)]
    exact (nC.ag b' (by decide)) u hu
  · refine ⟨by rw [h48, qs], fun j w hw => ?_⟩
    rw [qs] at hw
    have hjl := (List.getElem?_eq_some_iff.mp hw).1
    rw [(hj j hjl).1, (hj j hjl).2]
    exact nI'.2 (j + 1) w (by rw [hq, List.getElem?_cons_succ]; exact hw)
  · intro u hu
    obtain ⟨n1, n2⟩ := nH u hu
    rw [hhc, a.at 24 (by decide), s25, n2, hpc]
    refine ⟨n1, ?_⟩
    by_cases c : u = v % 16
    · rw [if_pos c, c, if_pos rfl, nI_pred]
    · rw [if_neg c, if_neg (fun w => c ((nI_eq (by omega) (by omega)).mp w).symm)]
      rfl
  · refine ⟨?_, fun w hw => ?_⟩
    · simp only [b'.at 31 (by decide), b'.at 36 (by decide), b'.at 22 (by decide)]
      exact k4.1
    · rw [b'.at 22 (by decide)]
      rw [qs] at hw
      exact k4.2 w (by rw [hq]; exact List.mem_cons_of_mem _ hw)
theorem rem16 : ∀ v, v < 32 → nI v - nI v / 16 * 16 = nI (v % 16) := by decide +kernel
/-- the kept interrupts, one by one -/
theorem s_lev {T P : Nat} (x1 x2 : Int32) : ∀ (l : List Nat) (n1 n2 b : Nat) (σ ρ : ed_S) (q : Nat → List Nat), zM b σ ρ T P q → q 33 = l → l.length < n1 → l.length < n2 → b + 8 * l.length < 1000000 → ∃ σ' ρ' q', F_Desk_level_52 n1 x1 x2 (nI l.length) σ = F_Desk_level_114 ed_fu x1 x2 0 σ' ∧ F_Mod_level_35 n2 x1 x2 ρ = F_Mod_level_129 ed_fu x1 x2 0 ρ' ∧ zM (b + 8 * l.length) σ' ρ' T P q' ∧ q' 33 = [] ∧ ρ' 47 0 0 = ρ 47 0 0 ∧ ρ' 46 0 0 = ρ 46 0 0 := by
  intro l
  induction l with
  | nil =>
    intro n1 n2 b σ ρ q z hq h1 h2 hb
    obtain ⟨n1, rfl⟩ : ∃ w, n1 = w + 1 := ⟨n1 - 1, by omega⟩
    obtain ⟨n2, rfl⟩ : ∃ w, n2 = w + 1 := ⟨n2 - 1, by omega⟩
    refine ⟨σ, ρ, q, rfl, ?_, z, hq, rfl, rfl⟩
    have h48 := z.1.2.2.2.2.2.2.2.2.2.2.1.1
    rw [hq] at h48
    show (if ρ 48 0 0 ≤ 0 then _ else _) = _
    rw [h48, if_pos (by decide)]
  | cons v l ih =>
    intro n1 n2 b σ ρ q z hq h1 h2 hb
    simp only [List.length_cons] at h1 h2 hb
    obtain ⟨n1, rfl⟩ : ∃ w, n1 = w + 1 := ⟨n1 - 1, by omega⟩
    obtain ⟨n2, rfl⟩ : ∃ w, n2 = w + 1 := ⟨n2 - 1, by omega⟩
    have hI := z.1.2.2.2.2.2.2.2.2.2.2.1
    have h48 := hI.1
    rw [hq, List.length_cons] at h48
    have hK8 := z.1.K
    rw [hq, List.length_cons] at hK8
    obtain ⟨hv, i40, i41⟩ := hI.2 0 v (by rw [hq]; rfl)
    obtain ⟨ρ1, hρ1⟩ : ∃ w, w = ed_st ρ 48 0 0 (nI l.length) := ⟨_, rfl⟩
    have c1 : ag_ ρ ρ1 [40, 41, 48] := by rw [hρ1]; exact ag_.rf.st (by decide)
    have c40 : ∀ j, ρ1 40 0 j = ρ 40 0 j := fun j => by rw [hρ1, ed_st_n (by omega)]
    have c41 : ∀ j, ρ1 41 0 j = ρ 41 0 j := fun j => by rw [hρ1, ed_st_n (by omega)]
    have eM : F_Mod_level_35 (n2 + 1) x1 x2 ρ = F_Mod_level_70 (F_Mod_level_35 n2) ed_fu x1 x2 (nI (v % 16)) (if v < 16 then 0 else 1) 0 ρ1 := by
      show (if ρ 48 0 0 ≤ 0 then _ else _) = _
      have g0 : ∀ f : Nat → Option (Int32 × ed_S), vG 0 8 f = f 0 := fun f => vG_at (j := 0) (by omega) (by omega)
      rw [h48, if_neg (nI_nle (by omega) (by omega)), g0, g0]
      simp only [vL]
      rw [nI_pred, i40, i41, hρ1]
    obtain ⟨ρ2, e2, b2, g2⟩ := m_shift (K := l.length) (ρ := ρ1) (by omega) (by rw [hρ1, ed_st_s]) (fun j hj => by
      obtain ⟨w, hw⟩ : ∃ w, (q 33)[j]? = some w := ⟨(q 33)[j]'(by rw [hq, List.length_cons]; omega), List.getElem?_eq_getElem _⟩
      rw [c41, (hI.2 j w hw).2.2]
      split
      · exact Or.inl rfl
      · exact Or.inr rfl) (F_Mod_level_35 n2) x1 x2 (nI (v % 16)) (if v < 16 then 0 else 1) ed_fu 0 ρ1 (by show _ < 64 + 0; omega) (by omega) ag_.rf (fun j hj => by omega) (fun j _ => ⟨rfl, rfl⟩)
    have e2 : F_Mod_level_70 (F_Mod_level_35 n2) ed_fu x1 x2 (nI (v % 16)) (if v < 16 then 0 else 1) 0 ρ1 = _ := e2
    have bb : ag_ ρ ρ2 [40, 41, 48] := c1.tr (b2.mo (by decide))
    obtain ⟨σ1, σ2, f1, f2, z2, a2⟩ := s_taken z hq (by rw [b2.at 48 (by decide), hρ1, ed_st_s]) bb (fun j hj => by rw [(g2 j hj).1, (g2 j hj).2, c40, c41]; exact ⟨rfl, rfl⟩)
    have h5 : ρ2 22 0 (v % 16) = 5 := by rw [bb.at 22 (by decide)]; exact z.2.2.2.1.2 v (by rw [hq]; exact List.mem_cons_self)
    have hm16 : v % 16 < 16 := by omega
    obtain ⟨σ3, ρ3, q3, k1, k2, z3, k4⟩ := s_finish (x2 := if v < 16 then 0 else 1) z2 hm16 h5 (by omega)
    have hq3 : q3 33 = l := by rw [k4.2.2.1 33 (Or.inr rfl), up_s]
    obtain ⟨σ', ρ', q', w1, w2, w3, w4, w5, w6⟩ := ih n1 n2 (b + 8) σ3 ρ3 q3 z3 hq3 (by omega) (by omega) (by omega)
    refine ⟨σ', ρ', q', ?_, ?_, by rw [List.length_cons, show b + 8 * (l.length + 1) = b + 8 + 8 * l.length by omega]; exact w3, w4, by rw [w5, k4.2.1.at 47 (by decide), bb.at 47 (by decide)], by rw [w6, k4.2.1.at 46 (by decide), bb.at 46 (by decide)]⟩
    · rw [← w1]
      show (if nI (l.length + 1) ≤ 0 then _ else _) = _
      rw [if_neg (nI_nle (by omega) (by omega)), vB2_at f1, rem16 v hv, vG_at hm16 (by omega)]
      simp only [vL]
      rw [← f2, List.length_cons, pk_m1]
      by_cases c : v < 16
      · rw [if_pos c] at k1
        rw [if_pos (show nI v < 16 from (nI_ltI (b := 16) (by omega) (by omega)).mpr c), vB1_at k1]
      · rw [if_neg c] at k1
        rw [if_neg (show ¬ nI v < 16 from fun y => c ((nI_ltI (b := 16) (by omega) (by omega)).mp y)), vB1_at k1]
    · rw [eM, e2, vB1_at k2, w2]
/-- all are alerted that are due -/
theorem s_alerts {T P : Nat} (x1 x2 : Int32) : ∀ (n k b : Nat) (σ ρ : ed_S) (q : Nat → List Nat), T < n + k → k ≤ T → zM b σ ρ T P q → b + (T - k) + 1 < 1000000 → q 33 = [] → ρ 47 0 0 = 0 → (∀ u, u < k → ρ 7 0 u = 2 → ¬ ρ 14 0 u < 2 → q u = []) → ∃ σ' ρ' q', F_Desk_level_114 n x1 x2 (nI k) σ = (vB1 (F_Desk_lookWhoRuns σ') fun σ2 => some (x2, σ2)) ∧ F_Mod_level_129 n x1 x2 (nI k) ρ = F_Mod_end x2 ρ' ∧ zM (b + (T - k)) σ' ρ' T P q' ∧ q' 33 = [] ∧ na_ ρ' T q' ∧ ρ' 46 0 0 = ρ 46 0 0 := by
  intro n
  induction n with
  | zero => intro k b σ ρ q h1 h2; omega
  | succ n ih =>
    intro k b σ ρ q h1 h2 z hb hq hl hna
    have hT8 := z.1.2.1.2.1
    have s1 := z.1.2.1.2.2.2.2.1
    have r43 := z.1.2.1.2.2.2.2.2.1
    rcases Nat.lt_or_ge k T with hk | hk
    · obtain ⟨σ1, ρ1, q1, e1, e2, z1, a1, b1, g1, g2, g3⟩ := s_alert z hk (by omega)
      have h33 : q1 33 = [] := by rw [g1 33 (by omega) (by omega)]; exact hq
      have h47 : ρ1 47 0 0 = 0 := by rw [b1.at 47 (by decide)]; exact hl
      obtain ⟨σ', ρ', q', w1, w2, w3, w4, w5, w6⟩ := ih (k + 1) (b + 1) σ1 ρ1 q1 (by omega) (by omega) z1 (by omega) h33 h47 (fun u hu y1 y2 => by
        rw [b1.at 14 (by decide)] at y2
        by_cases c : u = k
        · subst c; exact g3 hl y1 y2
        · rw [g1 u (by omega) c]
          exact hna u (by omega) (g2 u y1) y2)
      refine ⟨σ', ρ', q', ?_, ?_, by rw [show b + (T - k) = b + 1 + (T - (k + 1)) by omega]; exact w3, w4, w5, by rw [w6, b1.at 46 (by decide)]⟩
      · rw [← w1]
        show (if σ 1 0 0 ≤ nI k then _ else _) = _
        rw [s1, if_neg (nI_ge hk (by omega)), vB1_at e1, nI_1]
      · rw [← w2]
        show (if ρ 43 0 0 ≤ nI k then _ else _) = _
        rw [r43, if_neg (nI_ge hk (by omega)), vB1_at e2, nI_1]
    · have hke : k = T := by omega
      subst hke
      refine ⟨σ, ρ, q, ?_, ?_, z.mo (by omega), hq, hna, rfl⟩
      · show (if σ 1 0 0 ≤ nI k then _ else _) = _
        rw [s1, if_pos (le_rf _)]
      · show (if ρ 43 0 0 ≤ nI k then _ else _) = _
        rw [r43, if_pos (le_rf _), vB2_eta]
theorem m_alerts {σ ρ : ed_S} {T P : Nat} {q : Nat → List Nat} (x1 x2 : Int32) (m : gM σ ρ T P q) (hna : na_ ρ T q) : ∀ (n k : Nat), T < n + k → k ≤ T → F_Mod_level_129 n x1 x2 (nI k) ρ = F_Mod_end x2 ρ := by
  intro n
  induction n with
  | zero => intro k h1 h2; omega
  | succ n ih =>
    intro k h1 h2
    have hT8 := m.2.1.2.1
    have r43 := m.2.1.2.2.2.2.2.1
    rcases Nat.lt_or_ge k T with hk | hk
    · have e : F_Mod_alert (nI k) ρ = some ρ := by
        unfold F_Mod_alert
        simp only [vG_at (show k < 8 by omega) (show 8 < 2 ^ 31 by omega)]
        by_cases c : ρ 7 0 k = 2
        · rw [if_pos c]
          by_cases c2 : ρ 14 0 k < 2
          · rw [if_pos c2]
          · rw [if_neg c2, (m.2.2.2.2.2.1 k hk).1, hna k hk c c2, if_pos (show nI ([] : List Nat).length = 0 from rfl)]
        · rw [if_neg c]
      show (if ρ 43 0 0 ≤ nI k then _ else _) = _
      rw [r43, if_neg (nI_ge hk (by omega)), vB1_at e, nI_1]
      exact ih (k + 1) (by omega) (by omega)
    · have hke : k = T := by omega
      subst hke
      show (if ρ 43 0 0 ≤ nI k then _ else _) = _
      rw [r43, if_pos (le_rf _), vB2_eta]
theorem c_level (n : Nat) (x1 : Int32) (σ ρ : ed_S) (hn : n < 512) (hS : zS n σ ρ) : jt_ (zS (n + 1)) (F_Desk_level x1 σ) (F_Mod_level x1 ρ) := by
  have hS' := hS.mo
  obtain ⟨T, P, q, ⟨m, hb, hqu, hJ, hK, hL⟩, hC, ti, hl⟩ := hS
  unfold F_Desk_level F_Mod_level
  refine jt_run m hS' (fun t p hT ht hp hr hr5 hh hh8 h0 hpr H => ?_)
  rw [vB2_at (d_is _ _ _ _), vB2_at (m_is _ _ _ _)]
  rcases iw_c (x := x1) (b := 1) (n := 2) (by decide) (by omega) with w | ⟨a, ha, rfl, w⟩
  · rw [if_pos w, if_pos w]
    exact jt_b rfl hS'
  rw [if_neg w, if_neg w]
  simp only [vL, vB2_eta]
  have a9 := m.2.1.2.2.2.2.2.2.2.2.1
  have a10 := m.2.1.2.2.2.2.2.2.2.2.2.1
  rw [a9]
  obtain ⟨σ1, hσ1⟩ : ∃ w, w = ed_st σ 4 0 0 (nI a) := ⟨_, rfl⟩
  obtain ⟨ρ1, hρ1⟩ : ∃ w, w = ed_st ρ 47 0 0 (nI a) := ⟨_, rfl⟩
  rw [← hσ1, ← hρ1]
  have hA : ag_ σ σ1 [4] := by rw [hσ1]; exact ag_.rf.st (by decide)
  have hB : ag_ ρ ρ1 [47] := by rw [hρ1]; exact ag_.rf.st (by decide)
  have s4 : σ1 4 0 0 = nI a := by rw [hσ1, ed_st_s]
  have r47 : ρ1 47 0 0 = nI a := by rw [hρ1, ed_st_s]
  have hhc : ∀ o, hc_ ρ1 o = hc_ ρ o := fun o => hc_.ag hB (by decide) o
  have hpc : ∀ o, pc_ ρ1 T (q 33).length o = pc_ ρ T (q 33).length o := fun o => pc_.ag hB (by decide) (fun t _ => by rw [hB.at 7 (by decide)]) o
  have m1 : gM σ1 ρ1 T P q := by
    obtain ⟨nQ, nA, nT, nU, nR, nC, nW, nD, nX, nV, nI', nP, nH, nO⟩ := m
    refine ⟨nQ.ag hA (by decide), ?_, nT.ag hA hB (by decide) (by decide), nU.ag hA hB (by decide) (by decide), nR.ag hB (by decide), nC.ag hB (by decide), nW.ag hA hB (by decide) (by decide), nD.ag hB (by decide), nX.ag hA hB (by decide) (by decide), nV.ag hB (by decide), nI'.ag hB (by decide), nP.ag hA hB (by decide) (by decide), nH.ag hA (by decide) hhc hpc, nO.ag hA hB (by decide) (by decide) hhc hpc⟩
    obtain ⟨a1, a2, a3, a4, a5, a6, a7, a8, a9, a10, a11, a12, a13⟩ := nA
    refine ⟨a1, a2, ?_, ?_, ?_, ?_, ?_, ?_, ?_, ?_, ?_, ?_, ?_⟩
    · rw [hA.at 0 (by decide)]; exact a3
    · rw [hB.at 42 (by decide)]; exact a4
    · rw [hA.at 1 (by decide)]; exact a5
    · rw [hB.at 43 (by decide)]; exact a6
    · rw [hA.at 2 (by decide), hB.at 50 (by decide)]; exact a7
    · rw [hA.at 3 (by decide), hB.at 46 (by decide)]; exact a8
    · rw [s4, r47]
    · rw [r47]
      have : a = 0 ∨ a = 1 := by omega
      rcases this with rfl | rfl
      · exact Or.inl rfl
      · exact Or.inr rfl
    · rw [hA.at 5 (by decide), hB.at 44 (by decide)]; exact a11
    · rw [hA.at 6 (by decide), hB.at 45 (by decide)]; exact a12
    · rw [hA.at 7 (by decide), hB.at 49 (by decide)]; exact a13
  have z1 : zM (1300 * n) σ1 ρ1 T P q := ⟨m1, hb.ag hB (by decide), hqu.ag hB (by decide) (fun _ z => z), hJ.ag hB (by decide) rfl, hK.ag hB (by decide), hL.ag hB (by decide)⟩
  have hT8 := m.2.1.2.1
  have hK8 := m.K
  have this : a = 0 ∨ a = 1 := by omega
  rcases this with rfl | rfl
  · rw [if_pos (show nI 0 = 0 from rfl), if_pos (show nI 0 = 0 from rfl)]
    rcases a10 with c | c
    · -- it was 0 before
      rw [c, if_neg (show ¬ (0 : Int32) = 1 by decide)]
      obtain ⟨y1, y2, y3⟩ := hl c
      have y1' : lk_ ρ1 T q := y1.ag hB (by decide)
      have y3' : na_ ρ1 T q := y3.ag hB (by decide)
      have e35 : F_Mod_level_35 ed_fu (nI 0) 0 ρ1 = F_Mod_end 0 ρ1 := by
        have h48 := m1.2.2.2.2.2.2.2.2.2.2.1.1
        rw [y2] at h48
        show (if ρ1 48 0 0 ≤ 0 then _ else _) = _
        rw [h48, if_pos (by decide)]
        exact m_alerts _ _ m1 y3' ed_fu 0 (by show _ < 64 + 0; omega) (by omega)
      rw [e35]
      obtain ⟨ρ2, l1, l2⟩ := z1.fin0 (n := n + 1) (by omega) (hC_up hC (hB.at 46 (by decide) 0 0)) (fun _ => ⟨y1', y2, y3'⟩) 0
      rw [l1]
      exact jt_b rfl l2
    · rw [c, if_pos rfl, (m1.1 33 (by omega)).1]
      obtain ⟨σ2, ρ2, q2, e1, e2, z2, g1, g2, g3⟩ := s_lev (nI 0) 1 (q 33) ed_fu ed_fu (1300 * n) σ1 ρ1 q z1 rfl (by show _ < 64; omega) (by show _ < 64; omega) (by omega)
      rw [e1, e2]
      obtain ⟨σ3, ρ3, q3, k1, k2, z3, k3, k4, k5⟩ := s_alerts (nI 0) 1 ed_fu 0 _ σ2 ρ2 q2 (by show _ < 64 + 0; omega) (by omega) z2 (by omega) g1 (by rw [g2, r47]; rfl) (fun u hu => by omega)
      have k1 : F_Desk_level_114 ed_fu (nI 0) 1 0 σ2 = _ := k1
      have k2 : F_Mod_level_129 ed_fu (nI 0) 1 0 ρ2 = _ := k2
      rw [k1, k2]
      obtain ⟨σ4, ρ4, l1, l2, l3, -, -⟩ := z3.fin (n := n + 1) (by omega) (by omega) (hC_up hC (by rw [k5, g3, hB.at 46 (by decide)])) (fun _ => ⟨k3, k4⟩) 1
      rw [vB1_at l1, l2]
      exact jt_b rfl l3
  · have n10 : ¬ nI 1 = 0 := by decide
    rw [if_neg n10, if_neg n10]
    obtain ⟨ρ2, l1, l2⟩ := z1.fin0 (n := n + 1) (by omega) (hC_up hC (hB.at 46 (by decide) 0 0)) (fun y => by rw [r47] at y; exact absurd y n10) (ρ 47 0 0)
    rw [l1]
    have : (if ρ 47 0 0 = 1 then some (ρ 47 0 0, σ1) else some (ρ 47 0 0, σ1)) = some (ρ 47 0 0, σ1) := by split <;> rfl
    rw [this]
    exact jt_b rfl l2
